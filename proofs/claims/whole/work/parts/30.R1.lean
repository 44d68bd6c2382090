/-- R_parts -/
abbrev q_R_parts (dC : Nat → ClassId) (dI : Nat → Nat → Nat) (cJ cI cZ : ClassId) (a : Int64) (b : Int64) (A : Nat → Prop) : Array Value → State → Outcome → State → Prop := va_Ql (fun (r : Int64) (_ : Unit) => r = wpF a b) (kB (dC, dI) vwCl [(cJ, .long), (cI, .int), (cZ, .boolean)] A (fun (_ : Unit) => [])) A
set_option maxHeartbeats 4000000 in
set_option maxRecDepth 100000 in
theorem k_R_parts (l : Launch) (dC : Nat → ClassId) (dI : Nat → Nat → Nat) (cJ cI cZ : ClassId) (sz : Nat) (a : Int64) (b : Int64)  : Met l y_R_parts w_R_parts { frames := 0, cells := 0, slots := 0, locals := 0 } (kPc (dC, dI) vwCl [(cJ, .long), (cI, .int), (cZ, .boolean)] [] sz [.long a, .long b]) (q_R_parts dC dI cJ cI cZ a b (va_A [] sz)) 0 0 (va_A [] sz) := by
  refine k_met (q_R_parts dC dI cJ cI cZ a b) (by decide +kernel) rfl (Nat.le_of_ble_eq_true rfl) ?_
  intro p e s m below meth c A hx hb hr hml hown hts hlocks hin hA H hP hK hD hS ls hl
  have hl : lv_has ls 5 [(0, .long a), (2, .long b)] := hl
  have hown : s.vm.findClass R_R = some m.cls := hown
  have hts : ∀ wW ∈ kT, wW.before [.long a, .long b].toArray s = true := fun wW hW => hts wW (List.mem_cons_of_mem _ hW)
  refine lv_lload_n hx hb d_R_parts_0 rfl (lv_at hl 1 rfl) ?_
  refine lv_lconst (v := 1) hx hb d_R_parts_1 (by decide) ?_
  refine k_jlt (tgt := 42) hx hb d_R_parts_2 d_R_parts_3 (by decide) (fun c_2 => ?_) (fun c_2 => ?_)
  · refine lv_iconst (v := nI 0) hx hb d_R_parts_42 (by decide) ?_
    refine lv_istore (lv' := [(4, .int (nI 0)), (0, .long a), (2, .long b)]) hx hb d_R_parts_43 hl (by decide) rfl (fun ls hl => ?_)
    refine lv_iload hx hb d_R_parts_45 (lv_at hl 0 rfl) ?_
    refine k_n0eq (tgt := 60) hx hb d_R_parts_47 (by decide) (by omega) (fun _ => ?_) (fun h9 => absurd h9 (by decide))
    refine lv_ldc2 (v := (-1)) hx hb hown (hts _ wd_233) d_R_parts_60 ?_
    exact k_lret (v := (-1)) hx hb hr hlocks () (by first | (unfold wpF inB; rw [decide_eq_false (Int64.not_le.mpr c_2)]; rfl) | (unfold wpF inB; rw [decide_eq_true c_2, decide_eq_false (Int64.not_le.mpr c_10)]; rfl) | (unfold wpF inB; rw [decide_eq_true c_2, decide_eq_true c_10, decide_eq_false (Int64.not_le.mpr c_16)]; rfl) | (unfold wpF inB; rw [decide_eq_true c_2, decide_eq_true c_10, decide_eq_true c_16, decide_eq_false (Int64.not_le.mpr c_22)]; rfl) | exact (wp_no c_2 c_10 c_16 c_22 c_34).symm | exact (wp_yes c_2 c_10 c_16 c_22 c_34).symm) hP hD hK hS [] (by decide) rfl d_R_parts_63
  · refine lv_lload_n hx hb d_R_parts_6 rfl (lv_at hl 1 rfl) ?_
    refine lv_ldc2 (v := 10000) hx hb hown (hts _ wd_232) d_R_parts_7 ?_
    refine k_jgt (tgt := 42) hx hb d_R_parts_10 d_R_parts_11 (by decide) (fun c_10 => ?_) (fun c_10 => ?_)
    · refine lv_iconst (v := nI 0) hx hb d_R_parts_42 (by decide) ?_
      refine lv_istore (lv' := [(4, .int (nI 0)), (0, .long a), (2, .long b)]) hx hb d_R_parts_43 hl (by decide) rfl (fun ls hl => ?_)
      refine lv_iload hx hb d_R_parts_45 (lv_at hl 0 rfl) ?_
      refine k_n0eq (tgt := 60) hx hb d_R_parts_47 (by decide) (by omega) (fun _ => ?_) (fun h9 => absurd h9 (by decide))
      refine lv_ldc2 (v := (-1)) hx hb hown (hts _ wd_233) d_R_parts_60 ?_
      exact k_lret (v := (-1)) hx hb hr hlocks () (by first | (unfold wpF inB; rw [decide_eq_false (Int64.not_le.mpr c_2)]; rfl) | (unfold wpF inB; rw [decide_eq_true c_2, decide_eq_false (Int64.not_le.mpr c_10)]; rfl) | (unfold wpF inB; rw [decide_eq_true c_2, decide_eq_true c_10, decide_eq_false (Int64.not_le.mpr c_16)]; rfl) | (unfold wpF inB; rw [decide_eq_true c_2, decide_eq_true c_10, decide_eq_true c_16, decide_eq_false (Int64.not_le.mpr c_22)]; rfl) | exact (wp_no c_2 c_10 c_16 c_22 c_34).symm | exact (wp_yes c_2 c_10 c_16 c_22 c_34).symm) hP hD hK hS [] (by decide) rfl d_R_parts_63
    · refine lv_lload_n hx hb d_R_parts_14 rfl (lv_at hl 0 rfl) ?_
      refine lv_lconst (v := 0) hx hb d_R_parts_15 (by decide) ?_
      refine k_jlt (tgt := 42) hx hb d_R_parts_16 d_R_parts_17 (by decide) (fun c_16 => ?_) (fun c_16 => ?_)
      · refine lv_iconst (v := nI 0) hx hb d_R_parts_42 (by decide) ?_
        refine lv_istore (lv' := [(4, .int (nI 0)), (0, .long a), (2, .long b)]) hx hb d_R_parts_43 hl (by decide) rfl (fun ls hl => ?_)
        refine lv_iload hx hb d_R_parts_45 (lv_at hl 0 rfl) ?_
        refine k_n0eq (tgt := 60) hx hb d_R_parts_47 (by decide) (by omega) (fun _ => ?_) (fun h9 => absurd h9 (by decide))
        refine lv_ldc2 (v := (-1)) hx hb hown (hts _ wd_233) d_R_parts_60 ?_
        exact k_lret (v := (-1)) hx hb hr hlocks () (by first | (unfold wpF inB; rw [decide_eq_false (Int64.not_le.mpr c_2)]; rfl) | (unfold wpF inB; rw [decide_eq_true c_2, decide_eq_false (Int64.not_le.mpr c_10)]; rfl) | (unfold wpF inB; rw [decide_eq_true c_2, decide_eq_true c_10, decide_eq_false (Int64.not_le.mpr c_16)]; rfl) | (unfold wpF inB; rw [decide_eq_true c_2, decide_eq_true c_10, decide_eq_true c_16, decide_eq_false (Int64.not_le.mpr c_22)]; rfl) | exact (wp_no c_2 c_10 c_16 c_22 c_34).symm | exact (wp_yes c_2 c_10 c_16 c_22 c_34).symm) hP hD hK hS [] (by decide) rfl d_R_parts_63
      · refine lv_lload_n hx hb d_R_parts_20 rfl (lv_at hl 0 rfl) ?_
        refine lv_lload_n hx hb d_R_parts_21 rfl (lv_at hl 1 rfl) ?_
        refine k_jgt (tgt := 42) hx hb d_R_parts_22 d_R_parts_23 (by decide) (fun c_22 => ?_) (fun c_22 => ?_)
        · refine lv_iconst (v := nI 0) hx hb d_R_parts_42 (by decide) ?_
          refine lv_istore (lv' := [(4, .int (nI 0)), (0, .long a), (2, .long b)]) hx hb d_R_parts_43 hl (by decide) rfl (fun ls hl => ?_)
          refine lv_iload hx hb d_R_parts_45 (lv_at hl 0 rfl) ?_
          refine k_n0eq (tgt := 60) hx hb d_R_parts_47 (by decide) (by omega) (fun _ => ?_) (fun h9 => absurd h9 (by decide))
          refine lv_ldc2 (v := (-1)) hx hb hown (hts _ wd_233) d_R_parts_60 ?_
          exact k_lret (v := (-1)) hx hb hr hlocks () (by first | (unfold wpF inB; rw [decide_eq_false (Int64.not_le.mpr c_2)]; rfl) | (unfold wpF inB; rw [decide_eq_true c_2, decide_eq_false (Int64.not_le.mpr c_10)]; rfl) | (unfold wpF inB; rw [decide_eq_true c_2, decide_eq_true c_10, decide_eq_false (Int64.not_le.mpr c_16)]; rfl) | (unfold wpF inB; rw [decide_eq_true c_2, decide_eq_true c_10, decide_eq_true c_16, decide_eq_false (Int64.not_le.mpr c_22)]; rfl) | exact (wp_no c_2 c_10 c_16 c_22 c_34).symm | exact (wp_yes c_2 c_10 c_16 c_22 c_34).symm) hP hD hK hS [] (by decide) rfl d_R_parts_63
        · refine lv_lload_n hx hb d_R_parts_26 rfl (lv_at hl 0 rfl) ?_
          refine lv_ldc2 (v := 10000) hx hb hown (hts _ wd_232) d_R_parts_27 ?_
          refine lv_lmul hx hb d_R_parts_30 ?_
          refine lv_lload_n hx hb d_R_parts_31 rfl (lv_at hl 1 rfl) ?_
          refine lv_lrem hx hb d_R_parts_32 (ge1_ne c_2) ?_
          refine lv_lconst (v := 0) hx hb d_R_parts_33 (by decide) ?_
          refine k_jne (tgt := 42) hx hb d_R_parts_34 d_R_parts_35 (by decide) (fun c_34 => ?_) (fun c_34 => ?_)
          · refine lv_iconst (v := nI 0) hx hb d_R_parts_42 (by decide) ?_
            refine lv_istore (lv' := [(4, .int (nI 0)), (0, .long a), (2, .long b)]) hx hb d_R_parts_43 hl (by decide) rfl (fun ls hl => ?_)
            refine lv_iload hx hb d_R_parts_45 (lv_at hl 0 rfl) ?_
            refine k_n0eq (tgt := 60) hx hb d_R_parts_47 (by decide) (by omega) (fun _ => ?_) (fun h9 => absurd h9 (by decide))
            refine lv_ldc2 (v := (-1)) hx hb hown (hts _ wd_233) d_R_parts_60 ?_
            exact k_lret (v := (-1)) hx hb hr hlocks () (by first | (unfold wpF inB; rw [decide_eq_false (Int64.not_le.mpr c_2)]; rfl) | (unfold wpF inB; rw [decide_eq_true c_2, decide_eq_false (Int64.not_le.mpr c_10)]; rfl) | (unfold wpF inB; rw [decide_eq_true c_2, decide_eq_true c_10, decide_eq_false (Int64.not_le.mpr c_16)]; rfl) | (unfold wpF inB; rw [decide_eq_true c_2, decide_eq_true c_10, decide_eq_true c_16, decide_eq_false (Int64.not_le.mpr c_22)]; rfl) | exact (wp_no c_2 c_10 c_16 c_22 c_34).symm | exact (wp_yes c_2 c_10 c_16 c_22 c_34).symm) hP hD hK hS [] (by decide) rfl d_R_parts_63
          · refine lv_iconst (v := nI 1) hx hb d_R_parts_38 (by decide) ?_
            refine lv_goto (tgt := 43) hx hb d_R_parts_39 (by decide) ?_
            refine lv_istore (lv' := [(4, .int (nI 1)), (0, .long a), (2, .long b)]) hx hb d_R_parts_43 hl (by decide) rfl (fun ls hl => ?_)
            refine lv_iload hx hb d_R_parts_45 (lv_at hl 0 rfl) ?_
            refine k_n0eq (tgt := 60) hx hb d_R_parts_47 (by decide) (by omega) (fun h9 => absurd h9 (by decide)) (fun _ => ?_)
            refine lv_lload_n hx hb d_R_parts_50 rfl (lv_at hl 1 rfl) ?_
            refine lv_ldc2 (v := 10000) hx hb hown (hts _ wd_232) d_R_parts_51 ?_
            refine lv_lmul hx hb d_R_parts_54 ?_
            refine lv_lload_n hx hb d_R_parts_55 rfl (lv_at hl 2 rfl) ?_
            refine lv_ldiv hx hb d_R_parts_56 (ge1_ne c_2) ?_
            refine lv_goto (tgt := 63) hx hb d_R_parts_57 (by decide) ?_
            exact k_lret (v := (a * 10000) / b) hx hb hr hlocks () (by first | (unfold wpF inB; rw [decide_eq_false (Int64.not_le.mpr c_2)]; rfl) | (unfold wpF inB; rw [decide_eq_true c_2, decide_eq_false (Int64.not_le.mpr c_10)]; rfl) | (unfold wpF inB; rw [decide_eq_true c_2, decide_eq_true c_10, decide_eq_false (Int64.not_le.mpr c_16)]; rfl) | (unfold wpF inB; rw [decide_eq_true c_2, decide_eq_true c_10, decide_eq_true c_16, decide_eq_false (Int64.not_le.mpr c_22)]; rfl) | exact (wp_no c_2 c_10 c_16 c_22 c_34).symm | exact (wp_yes c_2 c_10 c_16 c_22 c_34).symm) hP hD hK hS [] (by decide) rfl d_R_parts_63
/-- R_isLot -/
abbrev q_R_isLot (dC : Nat → ClassId) (dI : Nat → Nat → Nat) (cJ cI cZ : ClassId) (h : Nat) (aK : Nat) (aF : Nat) (aS : Nat) (aZ : Nat) (aL : Nat) (aH : Nat) (sA : Nat) (sF : Nat) (aP : Nat) (aC : Nat) (mL : Nat) (mA : Nat) (tr : Nat) (n : Nat) (sc : Nat) (nc : Nat) (nr : Nat) (np : Nat) (mt : Bool) (mb : Int64) (mc : Nat) (x : Int32) (A : Nat → Prop) : Array Value → State → Outcome → State → Prop := va_Qi (fun (r : Int32) (_ : Unit) => r = zI (lotB n x)) (kB (dC, dI) vwCl [(cJ, .long), (cI, .int), (cZ, .boolean)] A (fun (_ : Unit) => [(h, .inr (3, [.ref aK, .ref aF, .ref aS, .ref aZ, .int (nI n), .ref aL, .int (nI sc), .ref aH, .int (nI nc), .ref sA, .ref sF, .int (nI nr), .ref aP, .ref aC, .int (nI np), .int (zI mt), .ref mL, .ref mA, .long mb, .int (nI mc), .ref tr]))])) A
set_option maxHeartbeats 4000000 in
set_option maxRecDepth 100000 in
theorem k_R_isLot (l : Launch) (dC : Nat → ClassId) (dI : Nat → Nat → Nat) (cJ cI cZ : ClassId) (sz : Nat) (h : Nat) (aK : Nat) (aF : Nat) (aS : Nat) (aZ : Nat) (aL : Nat) (aH : Nat) (sA : Nat) (sF : Nat) (aP : Nat) (aC : Nat) (mL : Nat) (mA : Nat) (tr : Nat) (n : Nat) (sc : Nat) (nc : Nat) (nr : Nat) (np : Nat) (mt : Bool) (mb : Int64) (mc : Nat) (x : Int32)  : Met l y_R_isLot w_R_isLot { frames := 0, cells := 0, slots := 0, locals := 0 } (kPc (dC, dI) vwCl [(cJ, .long), (cI, .int), (cZ, .boolean)] [(h, .inr (3, [.ref aK, .ref aF, .ref aS, .ref aZ, .int (nI n), .ref aL, .int (nI sc), .ref aH, .int (nI nc), .ref sA, .ref sF, .int (nI nr), .ref aP, .ref aC, .int (nI np), .int (zI mt), .ref mL, .ref mA, .long mb, .int (nI mc), .ref tr]))] sz [.ref h, .int x]) (q_R_isLot dC dI cJ cI cZ h aK aF aS aZ aL aH sA sF aP aC mL mA tr n sc nc nr np mt mb mc x (va_A [(h, .inr (3, [.ref aK, .ref aF, .ref aS, .ref aZ, .int (nI n), .ref aL, .int (nI sc), .ref aH, .int (nI nc), .ref sA, .ref sF, .int (nI nr), .ref aP, .ref aC, .int (nI np), .int (zI mt), .ref mL, .ref mA, .long mb, .int (nI mc), .ref tr]))] sz)) 0 0 (va_A [(h, .inr (3, [.ref aK, .ref aF, .ref aS, .ref aZ, .int (nI n), .ref aL, .int (nI sc), .ref aH, .int (nI nc), .ref sA, .ref sF, .int (nI nr), .ref aP, .ref aC, .int (nI np), .int (zI mt), .ref mL, .ref mA, .long mb, .int (nI mc), .ref tr]))] sz) := by
  refine k_met (q_R_isLot dC dI cJ cI cZ h aK aF aS aZ aL aH sA sF aP aC mL mA tr n sc nc nr np mt mb mc x) (by decide +kernel) rfl (Nat.le_of_ble_eq_true rfl) ?_
  intro p e s m below meth c A hx hb hr hml hown hts hlocks hin hA H hP hK hD hS ls hl
  have hl : lv_has ls 2 [(0, .ref h), (1, .int x)] := hl
  have hown : s.vm.findClass R_R = some m.cls := hown
  have hts : ∀ wW ∈ kT, wW.before [.ref h, .int x].toArray s = true := fun wW hW => hts wW (List.mem_cons_of_mem _ hW)
  refine lv_iload_n hx hb d_R_isLot_0 rfl (lv_at hl 1 rfl) ?_
  refine lv_if_lt (tgt := 16) hx hb d_R_isLot_1 (by decide) (fun c_1 => ?_) (fun c_1 => ?_)
  · refine lv_iconst (v := nI 0) hx hb d_R_isLot_16 (by decide) ?_
    exact k_zret (v := nI 0) hx hb hr hlocks rfl () (by first | (unfold lotB; rw [decide_eq_true c_1]; rfl) | (unfold lotB; rw [decide_eq_false c_1, decide_eq_true c_9]; rfl) | (unfold lotB; rw [decide_eq_false c_1, decide_eq_false c_9]; rfl)) hP hD hK hS [0] (by decide) rfl d_R_isLot_17
  · refine lv_iload_n hx hb d_R_isLot_4 rfl (lv_at hl 1 rfl) ?_
    refine lv_aload_n hx hb d_R_isLot_5 rfl (lv_at hl 0 rfl) ?_
    refine va_get (D := (dC, dI)) (ci := 3) (v := .int (nI n)) (C := R_R) (T := T_R) (N := 21) hx hb hts iT_R hown hK hP 0 rfl rfl 4 (by decide) (hts _ wd_227) (fun _ h9 => h9) rfl d_R_isLot_6 ?_
    refine lv_icmp_ge (tgt := 16) hx hb d_R_isLot_9 (by decide) (fun c_9 => ?_) (fun c_9 => ?_)
    · refine lv_iconst (v := nI 0) hx hb d_R_isLot_16 (by decide) ?_
      exact k_zret (v := nI 0) hx hb hr hlocks rfl () (by first | (unfold lotB; rw [decide_eq_true c_1]; rfl) | (unfold lotB; rw [decide_eq_false c_1, decide_eq_true c_9]; rfl) | (unfold lotB; rw [decide_eq_false c_1, decide_eq_false c_9]; rfl)) hP hD hK hS [0] (by decide) rfl d_R_isLot_17
    · refine lv_iconst (v := nI 1) hx hb d_R_isLot_12 (by decide) ?_
      refine lv_goto (tgt := 17) hx hb d_R_isLot_13 (by decide) ?_
      exact k_zret (v := nI 1) hx hb hr hlocks rfl () (by first | (unfold lotB; rw [decide_eq_true c_1]; rfl) | (unfold lotB; rw [decide_eq_false c_1, decide_eq_true c_9]; rfl) | (unfold lotB; rw [decide_eq_false c_1, decide_eq_false c_9]; rfl)) hP hD hK hS [0] (by decide) rfl d_R_isLot_17
/-- R_put -/
abbrev q_R_put (dC : Nat → ClassId) (dI : Nat → Nat → Nat) (cJ cI cZ : ClassId) (h : Nat) (aK : Nat) (aF : Nat) (aS : Nat) (aZ : Nat) (aL : Nat) (aH : Nat) (sA : Nat) (sF : Nat) (aP : Nat) (aC : Nat) (mL : Nat) (mA : Nat) (tr : Nat) (n : Nat) (sc : Nat) (nc : Nat) (nr : Nat) (np : Nat) (mt : Bool) (mb : Int64) (mc : Nat) (kg : Nat → Int64) (ft : Nat → Int64) (so : Nat → Int64) (sp : Nat → Int32) (w : Int64) (f : Int64) (g : Int64) (A : Nat → Prop) : Array Value → State → Outcome → State → Prop := va_Qi (fun (r : Int32) (_ : Unit) => r = nI n) (kB (dC, dI) vwCl [(cJ, .long), (cI, .int), (cZ, .boolean)] A (fun (_ : Unit) => [(h, .inr (3, [.ref aK, .ref aF, .ref aS, .ref aZ, .int (nI (n + 1)), .ref aL, .int (nI sc), .ref aH, .int (nI nc), .ref sA, .ref sF, .int (nI nr), .ref aP, .ref aC, .int (nI np), .int (zI mt), .ref mL, .ref mA, .long mb, .int (nI mc), .ref tr])), (aK, .inl (cJ, 60, .inr (.inl (vp_updL kg n w)))), (aF, .inl (cJ, 60, .inr (.inl (vp_updL ft n f)))), (aS, .inl (cJ, 60, .inr (.inl (vp_updL so n g)))), (aZ, .inl (cZ, 60, .inl sp))])) A
set_option maxHeartbeats 4000000 in
set_option maxRecDepth 100000 in
theorem k_R_put (l : Launch) (dC : Nat → ClassId) (dI : Nat → Nat → Nat) (cJ cI cZ : ClassId) (sz : Nat) (h : Nat) (aK : Nat) (aF : Nat) (aS : Nat) (aZ : Nat) (aL : Nat) (aH : Nat) (sA : Nat) (sF : Nat) (aP : Nat) (aC : Nat) (mL : Nat) (mA : Nat) (tr : Nat) (n : Nat) (sc : Nat) (nc : Nat) (nr : Nat) (np : Nat) (mt : Bool) (mb : Int64) (mc : Nat) (kg : Nat → Int64) (ft : Nat → Int64) (so : Nat → Int64) (sp : Nat → Int32) (w : Int64) (f : Int64) (g : Int64) (hn : n < 60) (hz : sp n = nI 0) : Met l y_R_put w_R_put { frames := 0, cells := 0, slots := 0, locals := 0 } (kPc (dC, dI) vwCl [(cJ, .long), (cI, .int), (cZ, .boolean)] [(h, .inr (3, [.ref aK, .ref aF, .ref aS, .ref aZ, .int (nI n), .ref aL, .int (nI sc), .ref aH, .int (nI nc), .ref sA, .ref sF, .int (nI nr), .ref aP, .ref aC, .int (nI np), .int (zI mt), .ref mL, .ref mA, .long mb, .int (nI mc), .ref tr])), (aK, .inl (cJ, 60, .inr (.inl kg))), (aF, .inl (cJ, 60, .inr (.inl ft))), (aS, .inl (cJ, 60, .inr (.inl so))), (aZ, .inl (cZ, 60, .inl sp))] sz [.ref h, .long w, .long f, .long g]) (q_R_put dC dI cJ cI cZ h aK aF aS aZ aL aH sA sF aP aC mL mA tr n sc nc nr np mt mb mc kg ft so sp w f g (va_A [(h, .inr (3, [.ref aK, .ref aF, .ref aS, .ref aZ, .int (nI n), .ref aL, .int (nI sc), .ref aH, .int (nI nc), .ref sA, .ref sF, .int (nI nr), .ref aP, .ref aC, .int (nI np), .int (zI mt), .ref mL, .ref mA, .long mb, .int (nI mc), .ref tr])), (aK, .inl (cJ, 60, .inr (.inl kg))), (aF, .inl (cJ, 60, .inr (.inl ft))), (aS, .inl (cJ, 60, .inr (.inl so))), (aZ, .inl (cZ, 60, .inl sp))] sz)) 0 0 (va_A [(h, .inr (3, [.ref aK, .ref aF, .ref aS, .ref aZ, .int (nI n), .ref aL, .int (nI sc), .ref aH, .int (nI nc), .ref sA, .ref sF, .int (nI nr), .ref aP, .ref aC, .int (nI np), .int (zI mt), .ref mL, .ref mA, .long mb, .int (nI mc), .ref tr])), (aK, .inl (cJ, 60, .inr (.inl kg))), (aF, .inl (cJ, 60, .inr (.inl ft))), (aS, .inl (cJ, 60, .inr (.inl so))), (aZ, .inl (cZ, 60, .inl sp))] sz) := by
  refine k_met (q_R_put dC dI cJ cI cZ h aK aF aS aZ aL aH sA sF aP aC mL mA tr n sc nc nr np mt mb mc kg ft so sp w f g) (by decide +kernel) rfl (Nat.le_of_ble_eq_true rfl) ?_
  intro p e s m below meth c A hx hb hr hml hown hts hlocks hin hA H hP hK hD hS ls hl
  have hl : lv_has ls 7 [(0, .ref h), (1, .long w), (3, .long f), (5, .long g)] := hl
  have hown : s.vm.findClass R_R = some m.cls := hown
  have hts : ∀ wW ∈ kT, wW.before [.ref h, .long w, .long f, .long g].toArray s = true := fun wW hW => hts wW (List.mem_cons_of_mem _ hW)
  refine lv_aload_n hx hb d_R_put_0 rfl (lv_at hl 0 rfl) ?_
  refine va_get (D := (dC, dI)) (ci := 3) (v := .ref aK) (C := R_R) (T := T_R) (N := 21) hx hb hts iT_R hown hK hP 0 rfl rfl 0 (by decide) (hts _ wd_209) (fun _ h9 => h9) rfl d_R_put_1 ?_
  refine lv_aload_n hx hb d_R_put_4 rfl (lv_at hl 0 rfl) ?_
  refine va_get (D := (dC, dI)) (ci := 3) (v := .int (nI n)) (C := R_R) (T := T_R) (N := 21) hx hb hts iT_R hown hK hP 0 rfl rfl 4 (by decide) (hts _ wd_227) (fun _ h9 => h9) rfl d_R_put_5 ?_
  refine lv_lload_n hx hb d_R_put_8 rfl (lv_at hl 1 rfl) ?_
  refine k_last (j := n) hx hb hK hP hD hS 1 0 rfl rfl (by omega) (by decide) d_R_put_9 (fun H locs hP hD hS => ?_)
  have hP : va_P (dC, dI) vwCl [(h, .inr (3, [.ref aK, .ref aF, .ref aS, .ref aZ, .int (nI n), .ref aL, .int (nI sc), .ref aH, .int (nI nc), .ref sA, .ref sF, .int (nI nr), .ref aP, .ref aC, .int (nI np), .int (zI mt), .ref mL, .ref mA, .long mb, .int (nI mc), .ref tr])), (aK, .inl (cJ, 60, .inr (.inl (vp_updL kg n w)))), (aF, .inl (cJ, 60, .inr (.inl ft))), (aS, .inl (cJ, 60, .inr (.inl so))), (aZ, .inl (cZ, 60, .inl sp))] H := hP
  have hD : va_D A [(h, .inr (3, [.ref aK, .ref aF, .ref aS, .ref aZ, .int (nI n), .ref aL, .int (nI sc), .ref aH, .int (nI nc), .ref sA, .ref sF, .int (nI nr), .ref aP, .ref aC, .int (nI np), .int (zI mt), .ref mL, .ref mA, .long mb, .int (nI mc), .ref tr])), (aK, .inl (cJ, 60, .inr (.inl (vp_updL kg n w)))), (aF, .inl (cJ, 60, .inr (.inl ft))), (aS, .inl (cJ, 60, .inr (.inl so))), (aZ, .inl (cZ, 60, .inl sp))] := hD
  refine lv_aload_n hx hb d_R_put_10 rfl (lv_at hl 0 rfl) ?_
  refine va_get (D := (dC, dI)) (ci := 3) (v := .ref aF) (C := R_R) (T := T_R) (N := 21) hx hb hts iT_R hown hK hP 0 rfl rfl 1 (by decide) (hts _ wd_210) (fun _ h9 => h9) rfl d_R_put_11 ?_
  refine lv_aload_n hx hb d_R_put_14 rfl (lv_at hl 0 rfl) ?_
  refine va_get (D := (dC, dI)) (ci := 3) (v := .int (nI n)) (C := R_R) (T := T_R) (N := 21) hx hb hts iT_R hown hK hP 0 rfl rfl 4 (by decide) (hts _ wd_227) (fun _ h9 => h9) rfl d_R_put_15 ?_
  refine lv_lload_n hx hb d_R_put_18 rfl (lv_at hl 2 rfl) ?_
  refine k_last (j := n) hx hb hK hP hD hS 2 0 rfl rfl (by omega) (by decide) d_R_put_19 (fun H locs hP hD hS => ?_)
  have hP : va_P (dC, dI) vwCl [(h, .inr (3, [.ref aK, .ref aF, .ref aS, .ref aZ, .int (nI n), .ref aL, .int (nI sc), .ref aH, .int (nI nc), .ref sA, .ref sF, .int (nI nr), .ref aP, .ref aC, .int (nI np), .int (zI mt), .ref mL, .ref mA, .long mb, .int (nI mc), .ref tr])), (aK, .inl (cJ, 60, .inr (.inl (vp_updL kg n w)))), (aF, .inl (cJ, 60, .inr (.inl (vp_updL ft n f)))), (aS, .inl (cJ, 60, .inr (.inl so))), (aZ, .inl (cZ, 60, .inl sp))] H := hP
  have hD : va_D A [(h, .inr (3, [.ref aK, .ref aF, .ref aS, .ref aZ, .int (nI n), .ref aL, .int (nI sc), .ref aH, .int (nI nc), .ref sA, .ref sF, .int (nI nr), .ref aP, .ref aC, .int (nI np), .int (zI mt), .ref mL, .ref mA, .long mb, .int (nI mc), .ref tr])), (aK, .inl (cJ, 60, .inr (.inl (vp_updL kg n w)))), (aF, .inl (cJ, 60, .inr (.inl (vp_updL ft n f)))), (aS, .inl (cJ, 60, .inr (.inl so))), (aZ, .inl (cZ, 60, .inl sp))] := hD
  refine lv_aload_n hx hb d_R_put_20 rfl (lv_at hl 0 rfl) ?_
  refine va_get (D := (dC, dI)) (ci := 3) (v := .ref aS) (C := R_R) (T := T_R) (N := 21) hx hb hts iT_R hown hK hP 0 rfl rfl 2 (by decide) (hts _ wd_211) (fun _ h9 => h9) rfl d_R_put_21 ?_
  refine lv_aload_n hx hb d_R_put_24 rfl (lv_at hl 0 rfl) ?_
  refine va_get (D := (dC, dI)) (ci := 3) (v := .int (nI n)) (C := R_R) (T := T_R) (N := 21) hx hb hts iT_R hown hK hP 0 rfl rfl 4 (by decide) (hts _ wd_227) (fun _ h9 => h9) rfl d_R_put_25 ?_
  refine lv_lload hx hb d_R_put_28 (lv_at hl 3 rfl) ?_
  refine k_last (j := n) hx hb hK hP hD hS 3 0 rfl rfl (by omega) (by decide) d_R_put_30 (fun H locs hP hD hS => ?_)
  have hP : va_P (dC, dI) vwCl [(h, .inr (3, [.ref aK, .ref aF, .ref aS, .ref aZ, .int (nI n), .ref aL, .int (nI sc), .ref aH, .int (nI nc), .ref sA, .ref sF, .int (nI nr), .ref aP, .ref aC, .int (nI np), .int (zI mt), .ref mL, .ref mA, .long mb, .int (nI mc), .ref tr])), (aK, .inl (cJ, 60, .inr (.inl (vp_updL kg n w)))), (aF, .inl (cJ, 60, .inr (.inl (vp_updL ft n f)))), (aS, .inl (cJ, 60, .inr (.inl (vp_updL so n g)))), (aZ, .inl (cZ, 60, .inl sp))] H := hP
  have hD : va_D A [(h, .inr (3, [.ref aK, .ref aF, .ref aS, .ref aZ, .int (nI n), .ref aL, .int (nI sc), .ref aH, .int (nI nc), .ref sA, .ref sF, .int (nI nr), .ref aP, .ref aC, .int (nI np), .int (zI mt), .ref mL, .ref mA, .long mb, .int (nI mc), .ref tr])), (aK, .inl (cJ, 60, .inr (.inl (vp_updL kg n w)))), (aF, .inl (cJ, 60, .inr (.inl (vp_updL ft n f)))), (aS, .inl (cJ, 60, .inr (.inl (vp_updL so n g)))), (aZ, .inl (cZ, 60, .inl sp))] := hD
  refine lv_aload_n hx hb d_R_put_31 rfl (lv_at hl 0 rfl) ?_
  refine va_get (D := (dC, dI)) (ci := 3) (v := .ref aZ) (C := R_R) (T := T_R) (N := 21) hx hb hts iT_R hown hK hP 0 rfl rfl 3 (by decide) (hts _ wd_212) (fun _ h9 => h9) rfl d_R_put_32 ?_
  refine lv_aload_n hx hb d_R_put_35 rfl (lv_at hl 0 rfl) ?_
  refine va_get (D := (dC, dI)) (ci := 3) (v := .int (nI n)) (C := R_R) (T := T_R) (N := 21) hx hb hts iT_R hown hK hP 0 rfl rfl 4 (by decide) (hts _ wd_227) (fun _ h9 => h9) rfl d_R_put_36 ?_
  refine lv_iconst (v := nI 0) hx hb d_R_put_39 (by decide) ?_
  refine k_zast (j := n) hx hb hK hP hD hS 4 2 rfl rfl rfl (by omega) (by decide) d_R_put_40 (fun H locs hP hD hS => ?_)
  have ef_40 : upd sp n (nI 0) = sp := upd_same hz
  rw [ef_40] at hP hD
  have hP : va_P (dC, dI) vwCl [(h, .inr (3, [.ref aK, .ref aF, .ref aS, .ref aZ, .int (nI n), .ref aL, .int (nI sc), .ref aH, .int (nI nc), .ref sA, .ref sF, .int (nI nr), .ref aP, .ref aC, .int (nI np), .int (zI mt), .ref mL, .ref mA, .long mb, .int (nI mc), .ref tr])), (aK, .inl (cJ, 60, .inr (.inl (vp_updL kg n w)))), (aF, .inl (cJ, 60, .inr (.inl (vp_updL ft n f)))), (aS, .inl (cJ, 60, .inr (.inl (vp_updL so n g)))), (aZ, .inl (cZ, 60, .inl sp))] H := hP
  have hD : va_D A [(h, .inr (3, [.ref aK, .ref aF, .ref aS, .ref aZ, .int (nI n), .ref aL, .int (nI sc), .ref aH, .int (nI nc), .ref sA, .ref sF, .int (nI nr), .ref aP, .ref aC, .int (nI np), .int (zI mt), .ref mL, .ref mA, .long mb, .int (nI mc), .ref tr])), (aK, .inl (cJ, 60, .inr (.inl (vp_updL kg n w)))), (aF, .inl (cJ, 60, .inr (.inl (vp_updL ft n f)))), (aS, .inl (cJ, 60, .inr (.inl (vp_updL so n g)))), (aZ, .inl (cZ, 60, .inl sp))] := hD
  refine lv_aload_n hx hb d_R_put_41 rfl (lv_at hl 0 rfl) ?_
  refine lv_dup hx hb d_R_put_42 rfl ?_
  refine va_get (D := (dC, dI)) (ci := 3) (v := .int (nI n)) (C := R_R) (T := T_R) (N := 21) hx hb hts iT_R hown hK hP 0 rfl rfl 4 (by decide) (hts _ wd_227) (fun _ h9 => h9) rfl d_R_put_43 ?_
  refine lv_iconst (v := nI 1) hx hb d_R_put_46 (by decide) ?_
  refine lv_iadd hx hb d_R_put_47 ?_
  refine k_toi (nI_add n 1) ?_
  refine va_put (D := (dC, dI)) (ci := 3) (v := .int (nI (n + 1))) (ty := .int) (C := R_R) (T := T_R) (N := 21) hx hb hts iT_R t_R t_R_ok n_R hown hK hP hD hS 0 rfl rfl 4 (by decide) (hts _ wd_227) (fun _ h9 => h9) rfl (by decide +kernel) rfl rfl (Nat.le_of_ble_eq_true rfl) d_R_put_48 (fun H locs hP hD hS => ?_)
  have hP : va_P (dC, dI) vwCl [(h, .inr (3, [.ref aK, .ref aF, .ref aS, .ref aZ, .int (nI (n + 1)), .ref aL, .int (nI sc), .ref aH, .int (nI nc), .ref sA, .ref sF, .int (nI nr), .ref aP, .ref aC, .int (nI np), .int (zI mt), .ref mL, .ref mA, .long mb, .int (nI mc), .ref tr])), (aK, .inl (cJ, 60, .inr (.inl (vp_updL kg n w)))), (aF, .inl (cJ, 60, .inr (.inl (vp_updL ft n f)))), (aS, .inl (cJ, 60, .inr (.inl (vp_updL so n g)))), (aZ, .inl (cZ, 60, .inl sp))] H := hP
  have hD : va_D A [(h, .inr (3, [.ref aK, .ref aF, .ref aS, .ref aZ, .int (nI (n + 1)), .ref aL, .int (nI sc), .ref aH, .int (nI nc), .ref sA, .ref sF, .int (nI nr), .ref aP, .ref aC, .int (nI np), .int (zI mt), .ref mL, .ref mA, .long mb, .int (nI mc), .ref tr])), (aK, .inl (cJ, 60, .inr (.inl (vp_updL kg n w)))), (aF, .inl (cJ, 60, .inr (.inl (vp_updL ft n f)))), (aS, .inl (cJ, 60, .inr (.inl (vp_updL so n g)))), (aZ, .inl (cZ, 60, .inl sp))] := hD
  refine lv_aload_n hx hb d_R_put_51 rfl (lv_at hl 0 rfl) ?_
  refine va_get (D := (dC, dI)) (ci := 3) (v := .int (nI (n + 1))) (C := R_R) (T := T_R) (N := 21) hx hb hts iT_R hown hK hP 0 rfl rfl 4 (by decide) (hts _ wd_227) (fun _ h9 => h9) rfl d_R_put_52 ?_
  refine lv_iconst (v := nI 1) hx hb d_R_put_55 (by decide) ?_
  refine lv_isub hx hb d_R_put_56 ?_
  refine k_toi (y := nI n) (pk_sub (by omega)) ?_
  exact k_iret (v := nI n) hx hb hr hlocks () rfl hP hD hK hS [0, 1, 2, 3, 4] (by decide) rfl d_R_put_57
/-- R_lot -/
abbrev q_R_lot (dC : Nat → ClassId) (dI : Nat → Nat → Nat) (cJ cI cZ : ClassId) (h : Nat) (aK : Nat) (aF : Nat) (aS : Nat) (aZ : Nat) (aL : Nat) (aH : Nat) (sA : Nat) (sF : Nat) (aP : Nat) (aC : Nat) (mL : Nat) (mA : Nat) (tr : Nat) (n : Nat) (sc : Nat) (nc : Nat) (nr : Nat) (np : Nat) (mt : Bool) (mb : Int64) (mc : Nat) (kg : Nat → Int64) (ft : Nat → Int64) (so : Nat → Int64) (sp : Nat → Int32) (w : Int64) (a : Int64) (b : Int64) (A : Nat → Prop) : Array Value → State → Outcome → State → Prop := va_Qi (fun (r : Int32) (_ : Unit) => r = loA n w a b) (kB (dC, dI) vwCl [(cJ, .long), (cI, .int), (cZ, .boolean)] A (fun (_ : Unit) => [(h, .inr (3, [.ref aK, .ref aF, .ref aS, .ref aZ, .int (nI (bN (loY n w a b) (n + 1) n)), .ref aL, .int (nI sc), .ref aH, .int (nI nc), .ref sA, .ref sF, .int (nI nr), .ref aP, .ref aC, .int (nI np), .int (zI mt), .ref mL, .ref mA, .long mb, .int (nI mc), .ref tr])), (aK, .inl (cJ, 60, .inr (.inl (bL (loY n w a b) (vp_updL kg n w) kg)))), (aF, .inl (cJ, 60, .inr (.inl (bL (loY n w a b) (vp_updL ft n (wpF a b)) ft)))), (aS, .inl (cJ, 60, .inr (.inl (bL (loY n w a b) (vp_updL so n 0) so)))), (aZ, .inl (cZ, 60, .inl sp))])) A
set_option maxHeartbeats 4000000 in
set_option maxRecDepth 100000 in
theorem k_R_lot (l : Launch) (dC : Nat → ClassId) (dI : Nat → Nat → Nat) (cJ cI cZ : ClassId) (sz : Nat) (h : Nat) (aK : Nat) (aF : Nat) (aS : Nat) (aZ : Nat) (aL : Nat) (aH : Nat) (sA : Nat) (sF : Nat) (aP : Nat) (aC : Nat) (mL : Nat) (mA : Nat) (tr : Nat) (n : Nat) (sc : Nat) (nc : Nat) (nr : Nat) (np : Nat) (mt : Bool) (mb : Int64) (mc : Nat) (kg : Nat → Int64) (ft : Nat → Int64) (so : Nat → Int64) (sp : Nat → Int32) (w : Int64) (a : Int64) (b : Int64) (hn : n ≤ 60) (hz0 : ∀ j, n ≤ j → sp j = nI 0) : Met l y_R_lot w_R_lot { frames := 1, cells := 0, slots := 0, locals := 26 } (kPc (dC, dI) vwCl [(cJ, .long), (cI, .int), (cZ, .boolean)] [(h, .inr (3, [.ref aK, .ref aF, .ref aS, .ref aZ, .int (nI n), .ref aL, .int (nI sc), .ref aH, .int (nI nc), .ref sA, .ref sF, .int (nI nr), .ref aP, .ref aC, .int (nI np), .int (zI mt), .ref mL, .ref mA, .long mb, .int (nI mc), .ref tr])), (aK, .inl (cJ, 60, .inr (.inl kg))), (aF, .inl (cJ, 60, .inr (.inl ft))), (aS, .inl (cJ, 60, .inr (.inl so))), (aZ, .inl (cZ, 60, .inl sp))] sz [.ref h, .long w, .long a, .long b]) (q_R_lot dC dI cJ cI cZ h aK aF aS aZ aL aH sA sF aP aC mL mA tr n sc nc nr np mt mb mc kg ft so sp w a b (va_A [(h, .inr (3, [.ref aK, .ref aF, .ref aS, .ref aZ, .int (nI n), .ref aL, .int (nI sc), .ref aH, .int (nI nc), .ref sA, .ref sF, .int (nI nr), .ref aP, .ref aC, .int (nI np), .int (zI mt), .ref mL, .ref mA, .long mb, .int (nI mc), .ref tr])), (aK, .inl (cJ, 60, .inr (.inl kg))), (aF, .inl (cJ, 60, .inr (.inl ft))), (aS, .inl (cJ, 60, .inr (.inl so))), (aZ, .inl (cZ, 60, .inl sp))] sz)) 0 0 (va_A [(h, .inr (3, [.ref aK, .ref aF, .ref aS, .ref aZ, .int (nI n), .ref aL, .int (nI sc), .ref aH, .int (nI nc), .ref sA, .ref sF, .int (nI nr), .ref aP, .ref aC, .int (nI np), .int (zI mt), .ref mL, .ref mA, .long mb, .int (nI mc), .ref tr])), (aK, .inl (cJ, 60, .inr (.inl kg))), (aF, .inl (cJ, 60, .inr (.inl ft))), (aS, .inl (cJ, 60, .inr (.inl so))), (aZ, .inl (cZ, 60, .inl sp))] sz) := by
  refine k_met (q_R_lot dC dI cJ cI cZ h aK aF aS aZ aL aH sA sF aP aC mL mA tr n sc nc nr np mt mb mc kg ft so sp w a b) (by decide +kernel) rfl (Nat.le_of_ble_eq_true rfl) ?_
  intro p e s m below meth c A hx hb hr hml hown hts hlocks hin hA H hP hK hD hS ls hl
  have hl : lv_has ls 7 [(0, .ref h), (1, .long w), (3, .long a), (5, .long b)] := hl
  have hown : s.vm.findClass R_R = some m.cls := hown
  have hts : ∀ wW ∈ kT, wW.before [.ref h, .long w, .long a, .long b].toArray s = true := fun wW hW => hts wW (List.mem_cons_of_mem _ hW)
  refine lv_lload_n hx hb d_R_lot_0 rfl (lv_at hl 1 rfl) ?_
  refine lv_lconst (v := 1) hx hb d_R_lot_1 (by decide) ?_
  refine k_jlt (tgt := 25) hx hb d_R_lot_2 d_R_lot_3 (by decide) (fun c_2 => ?_) (fun c_2 => ?_)
  · refine lv_iconst (v := (-1)) hx hb d_R_lot_25 (by decide) ?_
    have hR : loR w a b = false := by first | (unfold loR inB; rw [decide_eq_false (Int64.not_le.mpr c_2)]; rfl) | (unfold loR inB; rw [decide_eq_true c_2, decide_eq_false (Int64.not_le.mpr c_10)]; rfl) | (unfold loR inB nP; rw [decide_eq_true c_2, decide_eq_true c_10, decide_eq_true (wp_lt c_21)]; rfl)
    have hY : loY n w a b = false := by unfold loY; rw [hR]; rfl
    have fq_0 : bN (loY n w a b) (n + 1) n = n := bN_f hY
    have fq_1 : bL (loY n w a b) (vp_updL kg n w) kg = kg := bL_f hY
    have fq_2 : bL (loY n w a b) (vp_updL ft n (wpF a b)) ft = ft := bL_f hY
    have fq_3 : bL (loY n w a b) (vp_updL so n 0) so = so := bL_f hY
    have hP : va_P (dC, dI) vwCl [(h, .inr (3, [.ref aK, .ref aF, .ref aS, .ref aZ, .int (nI (bN (loY n w a b) (n + 1) n)), .ref aL, .int (nI sc), .ref aH, .int (nI nc), .ref sA, .ref sF, .int (nI nr), .ref aP, .ref aC, .int (nI np), .int (zI mt), .ref mL, .ref mA, .long mb, .int (nI mc), .ref tr])), (aK, .inl (cJ, 60, .inr (.inl (bL (loY n w a b) (vp_updL kg n w) kg)))), (aF, .inl (cJ, 60, .inr (.inl (bL (loY n w a b) (vp_updL ft n (wpF a b)) ft)))), (aS, .inl (cJ, 60, .inr (.inl (bL (loY n w a b) (vp_updL so n 0) so)))), (aZ, .inl (cZ, 60, .inl sp))] H := by rw [fq_0, fq_1, fq_2, fq_3]; exact hP
    have hD : va_D A [(h, .inr (3, [.ref aK, .ref aF, .ref aS, .ref aZ, .int (nI (bN (loY n w a b) (n + 1) n)), .ref aL, .int (nI sc), .ref aH, .int (nI nc), .ref sA, .ref sF, .int (nI nr), .ref aP, .ref aC, .int (nI np), .int (zI mt), .ref mL, .ref mA, .long mb, .int (nI mc), .ref tr])), (aK, .inl (cJ, 60, .inr (.inl (bL (loY n w a b) (vp_updL kg n w) kg)))), (aF, .inl (cJ, 60, .inr (.inl (bL (loY n w a b) (vp_updL ft n (wpF a b)) ft)))), (aS, .inl (cJ, 60, .inr (.inl (bL (loY n w a b) (vp_updL so n 0) so)))), (aZ, .inl (cZ, 60, .inl sp))] := by rw [fq_0, fq_1, fq_2, fq_3]; exact hD
    exact k_iret (v := (-1)) hx hb hr hlocks () (by unfold loA; rw [hR]; rfl) hP hD hK hS [0, 1, 2, 3, 4] (by decide) rfl d_R_lot_26
  · refine lv_lload_n hx hb d_R_lot_6 rfl (lv_at hl 1 rfl) ?_
    refine lv_ldc2 (v := 1000000) hx hb hown (hts _ wd_223) d_R_lot_7 ?_
    refine k_jgt (tgt := 25) hx hb d_R_lot_10 d_R_lot_11 (by decide) (fun c_10 => ?_) (fun c_10 => ?_)
    · refine lv_iconst (v := (-1)) hx hb d_R_lot_25 (by decide) ?_
      have hR : loR w a b = false := by first | (unfold loR inB; rw [decide_eq_false (Int64.not_le.mpr c_2)]; rfl) | (unfold loR inB; rw [decide_eq_true c_2, decide_eq_false (Int64.not_le.mpr c_10)]; rfl) | (unfold loR inB nP; rw [decide_eq_true c_2, decide_eq_true c_10, decide_eq_true (wp_lt c_21)]; rfl)
      have hY : loY n w a b = false := by unfold loY; rw [hR]; rfl
      have fq_0 : bN (loY n w a b) (n + 1) n = n := bN_f hY
      have fq_1 : bL (loY n w a b) (vp_updL kg n w) kg = kg := bL_f hY
      have fq_2 : bL (loY n w a b) (vp_updL ft n (wpF a b)) ft = ft := bL_f hY
      have fq_3 : bL (loY n w a b) (vp_updL so n 0) so = so := bL_f hY
      have hP : va_P (dC, dI) vwCl [(h, .inr (3, [.ref aK, .ref aF, .ref aS, .ref aZ, .int (nI (bN (loY n w a b) (n + 1) n)), .ref aL, .int (nI sc), .ref aH, .int (nI nc), .ref sA, .ref sF, .int (nI nr), .ref aP, .ref aC, .int (nI np), .int (zI mt), .ref mL, .ref mA, .long mb, .int (nI mc), .ref tr])), (aK, .inl (cJ, 60, .inr (.inl (bL (loY n w a b) (vp_updL kg n w) kg)))), (aF, .inl (cJ, 60, .inr (.inl (bL (loY n w a b) (vp_updL ft n (wpF a b)) ft)))), (aS, .inl (cJ, 60, .inr (.inl (bL (loY n w a b) (vp_updL so n 0) so)))), (aZ, .inl (cZ, 60, .inl sp))] H := by rw [fq_0, fq_1, fq_2, fq_3]; exact hP
      have hD : va_D A [(h, .inr (3, [.ref aK, .ref aF, .ref aS, .ref aZ, .int (nI (bN (loY n w a b) (n + 1) n)), .ref aL, .int (nI sc), .ref aH, .int (nI nc), .ref sA, .ref sF, .int (nI nr), .ref aP, .ref aC, .int (nI np), .int (zI mt), .ref mL, .ref mA, .long mb, .int (nI mc), .ref tr])), (aK, .inl (cJ, 60, .inr (.inl (bL (loY n w a b) (vp_updL kg n w) kg)))), (aF, .inl (cJ, 60, .inr (.inl (bL (loY n w a b) (vp_updL ft n (wpF a b)) ft)))), (aS, .inl (cJ, 60, .inr (.inl (bL (loY n w a b) (vp_updL so n 0) so)))), (aZ, .inl (cZ, 60, .inl sp))] := by rw [fq_0, fq_1, fq_2, fq_3]; exact hD
      exact k_iret (v := (-1)) hx hb hr hlocks () (by unfold loA; rw [hR]; rfl) hP hD hK hS [0, 1, 2, 3, 4] (by decide) rfl d_R_lot_26
    · refine lv_lload_n hx hb d_R_lot_14 rfl (lv_at hl 2 rfl) ?_
      refine lv_lload hx hb d_R_lot_15 (lv_at hl 3 rfl) ?_
      refine k_calll (wr := [(h, .inr (3, [.ref aK, .ref aF, .ref aS, .ref aZ, .int (nI n), .ref aL, .int (nI sc), .ref aH, .int (nI nc), .ref sA, .ref sF, .int (nI nr), .ref aP, .ref aC, .int (nI np), .int (zI mt), .ref mL, .ref mA, .long mb, .int (nI mc), .ref tr])), (aK, .inl (cJ, 60, .inr (.inl kg))), (aF, .inl (cJ, 60, .inr (.inl ft))), (aS, .inl (cJ, 60, .inr (.inl so))), (aZ, .inl (cZ, 60, .inl sp))]) (va_runS (As := [.long a, .long b]) (rest := []) ⟨hx, hb, hml, hown, hts⟩ (k_R_parts l dC dI cJ cI cZ _ a b) (k_cs (y := y_R_parts) (own := R_R) hts wd_231 wd_224 wd_226 wd_225 hd_R_parts ⟨Nat.le_of_ble_eq_true rfl, Nat.le_of_ble_eq_true rfl⟩) (k_preS hP hD hK [] rfl (by decide)) rfl rfl hl.1 rfl (lv_room (Nat.le_of_ble_eq_true rfl)) d_R_lot_17 ⟨Nat.le_of_ble_eq_true rfl, Nat.le_of_ble_eq_true rfl⟩) hP hD hS hA [] [0, 1, 2, 3, 4] rfl rfl (by decide) (by decide) (fun r_17 uu H locs hpo hP hD hS => ?_)
      have hpo : r_17 = wpF a b := hpo
      subst hpo
      have hP : va_P (dC, dI) vwCl [(h, .inr (3, [.ref aK, .ref aF, .ref aS, .ref aZ, .int (nI n), .ref aL, .int (nI sc), .ref aH, .int (nI nc), .ref sA, .ref sF, .int (nI nr), .ref aP, .ref aC, .int (nI np), .int (zI mt), .ref mL, .ref mA, .long mb, .int (nI mc), .ref tr])), (aK, .inl (cJ, 60, .inr (.inl kg))), (aF, .inl (cJ, 60, .inr (.inl ft))), (aS, .inl (cJ, 60, .inr (.inl so))), (aZ, .inl (cZ, 60, .inl sp))] H := hP
      have hD : va_D A [(h, .inr (3, [.ref aK, .ref aF, .ref aS, .ref aZ, .int (nI n), .ref aL, .int (nI sc), .ref aH, .int (nI nc), .ref sA, .ref sF, .int (nI nr), .ref aP, .ref aC, .int (nI np), .int (zI mt), .ref mL, .ref mA, .long mb, .int (nI mc), .ref tr])), (aK, .inl (cJ, 60, .inr (.inl kg))), (aF, .inl (cJ, 60, .inr (.inl ft))), (aS, .inl (cJ, 60, .inr (.inl so))), (aZ, .inl (cZ, 60, .inl sp))] := hD
      refine lv_lconst (v := 0) hx hb d_R_lot_20 (by decide) ?_
      refine k_jge (tgt := 27) hx hb d_R_lot_21 d_R_lot_22 (by decide) (fun c_21 => ?_) (fun c_21 => ?_)
      · refine lv_aload_n hx hb d_R_lot_27 rfl (lv_at hl 0 rfl) ?_
        refine va_get (D := (dC, dI)) (ci := 3) (v := .int (nI n)) (C := R_R) (T := T_R) (N := 21) hx hb hts iT_R hown hK hP 0 rfl rfl 4 (by decide) (hts _ wd_227) (fun _ h9 => h9) rfl d_R_lot_28 ?_
        refine lv_bipush (v := nI 60) hx hb d_R_lot_31 (by decide) ?_
        refine k_nne (tgt := 41) hx hb d_R_lot_33 (by decide) (by omega) (by omega) (fun c_33 => ?_) (fun c_33 => ?_)
        · refine lv_aload_n hx hb d_R_lot_41 rfl (lv_at hl 0 rfl) ?_
          refine lv_lload_n hx hb d_R_lot_42 rfl (lv_at hl 1 rfl) ?_
          refine lv_lload_n hx hb d_R_lot_43 rfl (lv_at hl 2 rfl) ?_
          refine lv_lload hx hb d_R_lot_44 (lv_at hl 3 rfl) ?_
          refine k_calll (wr := [(h, .inr (3, [.ref aK, .ref aF, .ref aS, .ref aZ, .int (nI n), .ref aL, .int (nI sc), .ref aH, .int (nI nc), .ref sA, .ref sF, .int (nI nr), .ref aP, .ref aC, .int (nI np), .int (zI mt), .ref mL, .ref mA, .long mb, .int (nI mc), .ref tr])), (aK, .inl (cJ, 60, .inr (.inl kg))), (aF, .inl (cJ, 60, .inr (.inl ft))), (aS, .inl (cJ, 60, .inr (.inl so))), (aZ, .inl (cZ, 60, .inl sp))]) (va_runS (As := [.long a, .long b]) (rest := [.long w, .ref h]) ⟨hx, hb, hml, hown, hts⟩ (k_R_parts l dC dI cJ cI cZ _ a b) (k_cs (y := y_R_parts) (own := R_R) hts wd_231 wd_224 wd_226 wd_225 hd_R_parts ⟨Nat.le_of_ble_eq_true rfl, Nat.le_of_ble_eq_true rfl⟩) (k_preS hP hD hK [] rfl (by decide)) rfl rfl hl.1 rfl (lv_room (Nat.le_of_ble_eq_true rfl)) d_R_lot_46 ⟨Nat.le_of_ble_eq_true rfl, Nat.le_of_ble_eq_true rfl⟩) hP hD hS hA [] [0, 1, 2, 3, 4] rfl rfl (by decide) (by decide) (fun r_46 uu H locs hpo hP hD hS => ?_)
          have hpo : r_46 = wpF a b := hpo
          subst hpo
          have hP : va_P (dC, dI) vwCl [(h, .inr (3, [.ref aK, .ref aF, .ref aS, .ref aZ, .int (nI n), .ref aL, .int (nI sc), .ref aH, .int (nI nc), .ref sA, .ref sF, .int (nI nr), .ref aP, .ref aC, .int (nI np), .int (zI mt), .ref mL, .ref mA, .long mb, .int (nI mc), .ref tr])), (aK, .inl (cJ, 60, .inr (.inl kg))), (aF, .inl (cJ, 60, .inr (.inl ft))), (aS, .inl (cJ, 60, .inr (.inl so))), (aZ, .inl (cZ, 60, .inl sp))] H := hP
          have hD : va_D A [(h, .inr (3, [.ref aK, .ref aF, .ref aS, .ref aZ, .int (nI n), .ref aL, .int (nI sc), .ref aH, .int (nI nc), .ref sA, .ref sF, .int (nI nr), .ref aP, .ref aC, .int (nI np), .int (zI mt), .ref mL, .ref mA, .long mb, .int (nI mc), .ref tr])), (aK, .inl (cJ, 60, .inr (.inl kg))), (aF, .inl (cJ, 60, .inr (.inl ft))), (aS, .inl (cJ, 60, .inr (.inl so))), (aZ, .inl (cZ, 60, .inl sp))] := hD
          refine lv_lconst (v := 0) hx hb d_R_lot_49 (by decide) ?_
          refine k_calli (wr := []) (va_runV (As := [.long w, .long (wpF a b), .long 0]) (rest := []) ⟨hx, hb, hml, hown, hts⟩ (k_R_put l dC dI cJ cI cZ _ h aK aF aS aZ aL aH sA sF aP aC mL mA tr n sc nc nr np mt mb mc kg ft so sp w (wpF a b) 0 (by omega) (hz0 n (Nat.le_refl n))) (k_cw (y := y_R_put) (own := R_R) hts wd_234 wd_224 wd_230 wd_228 wd_229 hd_R_put ⟨Nat.le_of_ble_eq_true rfl, Nat.le_of_ble_eq_true rfl⟩) (k_preV (ci := 3) (q0 := 0) hP hD hK [0, 1, 2, 3, 4] rfl (by decide) rfl rfl) rfl rfl hl.1 rfl (lv_room (Nat.le_of_ble_eq_true rfl)) d_R_lot_50 ⟨Nat.le_of_ble_eq_true rfl, Nat.le_of_ble_eq_true rfl⟩) hP hD hS hA [0, 1, 2, 3, 4] [] rfl rfl (by decide) (by decide) (fun r_50 uu H locs hpo hP hD hS => ?_)
          have hpo : r_50 = nI n := hpo
          subst hpo
          have hP : va_P (dC, dI) vwCl [(h, .inr (3, [.ref aK, .ref aF, .ref aS, .ref aZ, .int (nI (n + 1)), .ref aL, .int (nI sc), .ref aH, .int (nI nc), .ref sA, .ref sF, .int (nI nr), .ref aP, .ref aC, .int (nI np), .int (zI mt), .ref mL, .ref mA, .long mb, .int (nI mc), .ref tr])), (aK, .inl (cJ, 60, .inr (.inl (vp_updL kg n w)))), (aF, .inl (cJ, 60, .inr (.inl (vp_updL ft n (wpF a b))))), (aS, .inl (cJ, 60, .inr (.inl (vp_updL so n 0)))), (aZ, .inl (cZ, 60, .inl sp))] H := hP
          have hD : va_D A [(h, .inr (3, [.ref aK, .ref aF, .ref aS, .ref aZ, .int (nI (n + 1)), .ref aL, .int (nI sc), .ref aH, .int (nI nc), .ref sA, .ref sF, .int (nI nr), .ref aP, .ref aC, .int (nI np), .int (zI mt), .ref mL, .ref mA, .long mb, .int (nI mc), .ref tr])), (aK, .inl (cJ, 60, .inr (.inl (vp_updL kg n w)))), (aF, .inl (cJ, 60, .inr (.inl (vp_updL ft n (wpF a b))))), (aS, .inl (cJ, 60, .inr (.inl (vp_updL so n 0)))), (aZ, .inl (cZ, 60, .inl sp))] := hD
          have hR : loR w a b = true := by unfold loR inB nP; rw [decide_eq_true c_2, decide_eq_true c_10, decide_eq_false (wp_ge c_21)]; rfl
          have hY : loY n w a b = true := by unfold loY; rw [hR, decide_eq_true (by omega)]; rfl
          have fq_0 : bN (loY n w a b) (n + 1) n = n + 1 := bN_t hY
          have fq_1 : bL (loY n w a b) (vp_updL kg n w) kg = vp_updL kg n w := bL_t hY
          have fq_2 : bL (loY n w a b) (vp_updL ft n (wpF a b)) ft = vp_updL ft n (wpF a b) := bL_t hY
          have fq_3 : bL (loY n w a b) (vp_updL so n 0) so = vp_updL so n 0 := bL_t hY
          have hP : va_P (dC, dI) vwCl [(h, .inr (3, [.ref aK, .ref aF, .ref aS, .ref aZ, .int (nI (bN (loY n w a b) (n + 1) n)), .ref aL, .int (nI sc), .ref aH, .int (nI nc), .ref sA, .ref sF, .int (nI nr), .ref aP, .ref aC, .int (nI np), .int (zI mt), .ref mL, .ref mA, .long mb, .int (nI mc), .ref tr])), (aK, .inl (cJ, 60, .inr (.inl (bL (loY n w a b) (vp_updL kg n w) kg)))), (aF, .inl (cJ, 60, .inr (.inl (bL (loY n w a b) (vp_updL ft n (wpF a b)) ft)))), (aS, .inl (cJ, 60, .inr (.inl (bL (loY n w a b) (vp_updL so n 0) so)))), (aZ, .inl (cZ, 60, .inl sp))] H := by rw [fq_0, fq_1, fq_2, fq_3]; exact hP
          have hD : va_D A [(h, .inr (3, [.ref aK, .ref aF, .ref aS, .ref aZ, .int (nI (bN (loY n w a b) (n + 1) n)), .ref aL, .int (nI sc), .ref aH, .int (nI nc), .ref sA, .ref sF, .int (nI nr), .ref aP, .ref aC, .int (nI np), .int (zI mt), .ref mL, .ref mA, .long mb, .int (nI mc), .ref tr])), (aK, .inl (cJ, 60, .inr (.inl (bL (loY n w a b) (vp_updL kg n w) kg)))), (aF, .inl (cJ, 60, .inr (.inl (bL (loY n w a b) (vp_updL ft n (wpF a b)) ft)))), (aS, .inl (cJ, 60, .inr (.inl (bL (loY n w a b) (vp_updL so n 0) so)))), (aZ, .inl (cZ, 60, .inl sp))] := by rw [fq_0, fq_1, fq_2, fq_3]; exact hD
          exact k_iret (v := nI n) hx hb hr hlocks () (by first | (unfold loA; rw [hR, if_neg (show ¬ n < 60 by omega)]; rfl) | (unfold loA; rw [hR, if_pos (show n < 60 by omega)]; rfl)) hP hD hK hS [0, 1, 2, 3, 4] (by decide) rfl d_R_lot_53
        · refine lv_bipush (v := (-2)) hx hb d_R_lot_36 (by decide) ?_
          refine lv_goto (tgt := 53) hx hb d_R_lot_38 (by decide) ?_
          have hR : loR w a b = true := by unfold loR inB nP; rw [decide_eq_true c_2, decide_eq_true c_10, decide_eq_false (wp_ge c_21)]; rfl
          have hY : loY n w a b = false := by unfold loY; rw [hR, decide_eq_false (by omega)]; rfl
          have fq_0 : bN (loY n w a b) (n + 1) n = n := bN_f hY
          have fq_1 : bL (loY n w a b) (vp_updL kg n w) kg = kg := bL_f hY
          have fq_2 : bL (loY n w a b) (vp_updL ft n (wpF a b)) ft = ft := bL_f hY
          have fq_3 : bL (loY n w a b) (vp_updL so n 0) so = so := bL_f hY
          have hP : va_P (dC, dI) vwCl [(h, .inr (3, [.ref aK, .ref aF, .ref aS, .ref aZ, .int (nI (bN (loY n w a b) (n + 1) n)), .ref aL, .int (nI sc), .ref aH, .int (nI nc), .ref sA, .ref sF, .int (nI nr), .ref aP, .ref aC, .int (nI np), .int (zI mt), .ref mL, .ref mA, .long mb, .int (nI mc), .ref tr])), (aK, .inl (cJ, 60, .inr (.inl (bL (loY n w a b) (vp_updL kg n w) kg)))), (aF, .inl (cJ, 60, .inr (.inl (bL (loY n w a b) (vp_updL ft n (wpF a b)) ft)))), (aS, .inl (cJ, 60, .inr (.inl (bL (loY n w a b) (vp_updL so n 0) so)))), (aZ, .inl (cZ, 60, .inl sp))] H := by rw [fq_0, fq_1, fq_2, fq_3]; exact hP
          have hD : va_D A [(h, .inr (3, [.ref aK, .ref aF, .ref aS, .ref aZ, .int (nI (bN (loY n w a b) (n + 1) n)), .ref aL, .int (nI sc), .ref aH, .int (nI nc), .ref sA, .ref sF, .int (nI nr), .ref aP, .ref aC, .int (nI np), .int (zI mt), .ref mL, .ref mA, .long mb, .int (nI mc), .ref tr])), (aK, .inl (cJ, 60, .inr (.inl (bL (loY n w a b) (vp_updL kg n w) kg)))), (aF, .inl (cJ, 60, .inr (.inl (bL (loY n w a b) (vp_updL ft n (wpF a b)) ft)))), (aS, .inl (cJ, 60, .inr (.inl (bL (loY n w a b) (vp_updL so n 0) so)))), (aZ, .inl (cZ, 60, .inl sp))] := by rw [fq_0, fq_1, fq_2, fq_3]; exact hD
          exact k_iret (v := (-2)) hx hb hr hlocks () (by first | (unfold loA; rw [hR, if_neg (show ¬ n < 60 by omega)]; rfl) | (unfold loA; rw [hR, if_pos (show n < 60 by omega)]; rfl)) hP hD hK hS [0, 1, 2, 3, 4] (by decide) rfl d_R_lot_53
      · refine lv_iconst (v := (-1)) hx hb d_R_lot_25 (by decide) ?_
        have hR : loR w a b = false := by first | (unfold loR inB; rw [decide_eq_false (Int64.not_le.mpr c_2)]; rfl) | (unfold loR inB; rw [decide_eq_true c_2, decide_eq_false (Int64.not_le.mpr c_10)]; rfl) | (unfold loR inB nP; rw [decide_eq_true c_2, decide_eq_true c_10, decide_eq_true (wp_lt c_21)]; rfl)
        have hY : loY n w a b = false := by unfold loY; rw [hR]; rfl
        have fq_0 : bN (loY n w a b) (n + 1) n = n := bN_f hY
        have fq_1 : bL (loY n w a b) (vp_updL kg n w) kg = kg := bL_f hY
        have fq_2 : bL (loY n w a b) (vp_updL ft n (wpF a b)) ft = ft := bL_f hY
        have fq_3 : bL (loY n w a b) (vp_updL so n 0) so = so := bL_f hY
        have hP : va_P (dC, dI) vwCl [(h, .inr (3, [.ref aK, .ref aF, .ref aS, .ref aZ, .int (nI (bN (loY n w a b) (n + 1) n)), .ref aL, .int (nI sc), .ref aH, .int (nI nc), .ref sA, .ref sF, .int (nI nr), .ref aP, .ref aC, .int (nI np), .int (zI mt), .ref mL, .ref mA, .long mb, .int (nI mc), .ref tr])), (aK, .inl (cJ, 60, .inr (.inl (bL (loY n w a b) (vp_updL kg n w) kg)))), (aF, .inl (cJ, 60, .inr (.inl (bL (loY n w a b) (vp_updL ft n (wpF a b)) ft)))), (aS, .inl (cJ, 60, .inr (.inl (bL (loY n w a b) (vp_updL so n 0) so)))), (aZ, .inl (cZ, 60, .inl sp))] H := by rw [fq_0, fq_1, fq_2, fq_3]; exact hP
        have hD : va_D A [(h, .inr (3, [.ref aK, .ref aF, .ref aS, .ref aZ, .int (nI (bN (loY n w a b) (n + 1) n)), .ref aL, .int (nI sc), .ref aH, .int (nI nc), .ref sA, .ref sF, .int (nI nr), .ref aP, .ref aC, .int (nI np), .int (zI mt), .ref mL, .ref mA, .long mb, .int (nI mc), .ref tr])), (aK, .inl (cJ, 60, .inr (.inl (bL (loY n w a b) (vp_updL kg n w) kg)))), (aF, .inl (cJ, 60, .inr (.inl (bL (loY n w a b) (vp_updL ft n (wpF a b)) ft)))), (aS, .inl (cJ, 60, .inr (.inl (bL (loY n w a b) (vp_updL so n 0) so)))), (aZ, .inl (cZ, 60, .inl sp))] := by rw [fq_0, fq_1, fq_2, fq_3]; exact hD
        exact k_iret (v := (-1)) hx hb hr hlocks () (by unfold loA; rw [hR]; rfl) hP hD hK hS [0, 1, 2, 3, 4] (by decide) rfl d_R_lot_26
/-- R_solids -/
abbrev q_R_solids (dC : Nat → ClassId) (dI : Nat → Nat → Nat) (cJ cI cZ : ClassId) (h : Nat) (aK : Nat) (aF : Nat) (aS : Nat) (aZ : Nat) (aL : Nat) (aH : Nat) (sA : Nat) (sF : Nat) (aP : Nat) (aC : Nat) (mL : Nat) (mA : Nat) (tr : Nat) (n : Nat) (sc : Nat) (nc : Nat) (nr : Nat) (np : Nat) (mt : Bool) (mb : Int64) (mc : Nat) (sp : Nat → Int32) (ft : Nat → Int64) (so : Nat → Int64) (x : Int32) (a : Int64) (b : Int64) (A : Nat → Prop) : Array Value → State → Outcome → State → Prop := va_Qi (fun (r : Int32) (_ : Unit) => r = zI (soY n sp ft x a b)) (kB (dC, dI) vwCl [(cJ, .long), (cI, .int), (cZ, .boolean)] A (fun (_ : Unit) => [(h, .inr (3, [.ref aK, .ref aF, .ref aS, .ref aZ, .int (nI n), .ref aL, .int (nI sc), .ref aH, .int (nI nc), .ref sA, .ref sF, .int (nI nr), .ref aP, .ref aC, .int (nI np), .int (zI mt), .ref mL, .ref mA, .long mb, .int (nI mc), .ref tr])), (aZ, .inl (cZ, 60, .inl sp)), (aF, .inl (cJ, 60, .inr (.inl ft))), (aS, .inl (cJ, 60, .inr (.inl (bL (soY n sp ft x a b) (vp_updL so x.toNatClampNeg (wpF a b)) so))))])) A
set_option maxHeartbeats 4000000 in
set_option maxRecDepth 100000 in
theorem k_R_solids (l : Launch) (dC : Nat → ClassId) (dI : Nat → Nat → Nat) (cJ cI cZ : ClassId) (sz : Nat) (h : Nat) (aK : Nat) (aF : Nat) (aS : Nat) (aZ : Nat) (aL : Nat) (aH : Nat) (sA : Nat) (sF : Nat) (aP : Nat) (aC : Nat) (mL : Nat) (mA : Nat) (tr : Nat) (n : Nat) (sc : Nat) (nc : Nat) (nr : Nat) (np : Nat) (mt : Bool) (mb : Int64) (mc : Nat) (sp : Nat → Int32) (ft : Nat → Int64) (so : Nat → Int64) (x : Int32) (a : Int64) (b : Int64) (hn : n ≤ 60) : Met l y_R_solids w_R_solids { frames := 1, cells := 0, slots := 0, locals := 24 } (kPc (dC, dI) vwCl [(cJ, .long), (cI, .int), (cZ, .boolean)] [(h, .inr (3, [.ref aK, .ref aF, .ref aS, .ref aZ, .int (nI n), .ref aL, .int (nI sc), .ref aH, .int (nI nc), .ref sA, .ref sF, .int (nI nr), .ref aP, .ref aC, .int (nI np), .int (zI mt), .ref mL, .ref mA, .long mb, .int (nI mc), .ref tr])), (aZ, .inl (cZ, 60, .inl sp)), (aF, .inl (cJ, 60, .inr (.inl ft))), (aS, .inl (cJ, 60, .inr (.inl so)))] sz [.ref h, .int x, .long a, .long b]) (q_R_solids dC dI cJ cI cZ h aK aF aS aZ aL aH sA sF aP aC mL mA tr n sc nc nr np mt mb mc sp ft so x a b (va_A [(h, .inr (3, [.ref aK, .ref aF, .ref aS, .ref aZ, .int (nI n), .ref aL, .int (nI sc), .ref aH, .int (nI nc), .ref sA, .ref sF, .int (nI nr), .ref aP, .ref aC, .int (nI np), .int (zI mt), .ref mL, .ref mA, .long mb, .int (nI mc), .ref tr])), (aZ, .inl (cZ, 60, .inl sp)), (aF, .inl (cJ, 60, .inr (.inl ft))), (aS, .inl (cJ, 60, .inr (.inl so)))] sz)) 0 0 (va_A [(h, .inr (3, [.ref aK, .ref aF, .ref aS, .ref aZ, .int (nI n), .ref aL, .int (nI sc), .ref aH, .int (nI nc), .ref sA, .ref sF, .int (nI nr), .ref aP, .ref aC, .int (nI np), .int (zI mt), .ref mL, .ref mA, .long mb, .int (nI mc), .ref tr])), (aZ, .inl (cZ, 60, .inl sp)), (aF, .inl (cJ, 60, .inr (.inl ft))), (aS, .inl (cJ, 60, .inr (.inl so)))] sz) := by
  refine k_met (q_R_solids dC dI cJ cI cZ h aK aF aS aZ aL aH sA sF aP aC mL mA tr n sc nc nr np mt mb mc sp ft so x a b) (by decide +kernel) rfl (Nat.le_of_ble_eq_true rfl) ?_
  intro p e s m below meth c A hx hb hr hml hown hts hlocks hin hA H hP hK hD hS ls hl
  have hl : lv_has ls 6 [(0, .ref h), (1, .int x), (2, .long a), (4, .long b)] := hl
  have hown : s.vm.findClass R_R = some m.cls := hown
  have hts : ∀ wW ∈ kT, wW.before [.ref h, .int x, .long a, .long b].toArray s = true := fun wW hW => hts wW (List.mem_cons_of_mem _ hW)
  refine lv_aload_n hx hb d_R_solids_0 rfl (lv_at hl 0 rfl) ?_
  refine lv_iload_n hx hb d_R_solids_1 rfl (lv_at hl 1 rfl) ?_
  refine k_calli (wr := [(aZ, .inl (cZ, 60, .inl sp)), (aF, .inl (cJ, 60, .inr (.inl ft))), (aS, .inl (cJ, 60, .inr (.inl so)))]) (va_runV (As := [.int x]) (rest := []) ⟨hx, hb, hml, hown, hts⟩ (k_R_isLot l dC dI cJ cI cZ _ h aK aF aS aZ aL aH sA sF aP aC mL mA tr n sc nc nr np mt mb mc x) (k_cw (y := y_R_isLot) (own := R_R) hts wd_239 wd_224 wd_238 wd_236 wd_237 hd_R_isLot ⟨Nat.le_of_ble_eq_true rfl, Nat.le_of_ble_eq_true rfl⟩) (k_preV (ci := 3) (q0 := 0) hP hD hK [0] rfl (by decide) rfl rfl) rfl rfl hl.1 rfl (lv_room (Nat.le_of_ble_eq_true rfl)) d_R_solids_2 ⟨Nat.le_of_ble_eq_true rfl, Nat.le_of_ble_eq_true rfl⟩) hP hD hS hA [0] [1, 2, 3] rfl rfl (by decide) (by decide) (fun r_2 uu H locs hpo hP hD hS => ?_)
  have hpo : r_2 = zI (lotB n x) := hpo
  subst hpo
  have hP : va_P (dC, dI) vwCl [(aZ, .inl (cZ, 60, .inl sp)), (aF, .inl (cJ, 60, .inr (.inl ft))), (aS, .inl (cJ, 60, .inr (.inl so))), (h, .inr (3, [.ref aK, .ref aF, .ref aS, .ref aZ, .int (nI n), .ref aL, .int (nI sc), .ref aH, .int (nI nc), .ref sA, .ref sF, .int (nI nr), .ref aP, .ref aC, .int (nI np), .int (zI mt), .ref mL, .ref mA, .long mb, .int (nI mc), .ref tr]))] H := hP
  have hD : va_D A [(aZ, .inl (cZ, 60, .inl sp)), (aF, .inl (cJ, 60, .inr (.inl ft))), (aS, .inl (cJ, 60, .inr (.inl so))), (h, .inr (3, [.ref aK, .ref aF, .ref aS, .ref aZ, .int (nI n), .ref aL, .int (nI sc), .ref aH, .int (nI nc), .ref sA, .ref sF, .int (nI nr), .ref aP, .ref aC, .int (nI np), .int (zI mt), .ref mL, .ref mA, .long mb, .int (nI mc), .ref tr]))] := hD
  refine k_zeq (tgt := 48) hx hb d_R_solids_5 (by decide) (fun c_5 => ?_) (fun c_5 => ?_)
  · refine lv_iconst (v := nI 0) hx hb d_R_solids_48 (by decide) ?_
    have hY : soY n sp ft x a b = false := by first | (unfold soY unB; rw [c_5]; rfl) | (unfold soY unB; rw [c_5, hcl, decide_eq_false c_14]; rfl) | (unfold soY nP; rw [hU, decide_eq_true (wp_lt c_24)]; rfl) | (unfold soY nP; rw [hU, decide_eq_false (wp_ge c_24), hcl, decide_eq_false (Int64.not_le.mpr c_44)]; rfl)
    have fq_0 : bL (soY n sp ft x a b) (vp_updL so x.toNatClampNeg (wpF a b)) so = so := bL_f hY
    have hP : va_P (dC, dI) vwCl [(aZ, .inl (cZ, 60, .inl sp)), (aF, .inl (cJ, 60, .inr (.inl ft))), (aS, .inl (cJ, 60, .inr (.inl (bL (soY n sp ft x a b) (vp_updL so x.toNatClampNeg (wpF a b)) so)))), (h, .inr (3, [.ref aK, .ref aF, .ref aS, .ref aZ, .int (nI n), .ref aL, .int (nI sc), .ref aH, .int (nI nc), .ref sA, .ref sF, .int (nI nr), .ref aP, .ref aC, .int (nI np), .int (zI mt), .ref mL, .ref mA, .long mb, .int (nI mc), .ref tr]))] H := by rw [fq_0]; exact hP
    have hD : va_D A [(aZ, .inl (cZ, 60, .inl sp)), (aF, .inl (cJ, 60, .inr (.inl ft))), (aS, .inl (cJ, 60, .inr (.inl (bL (soY n sp ft x a b) (vp_updL so x.toNatClampNeg (wpF a b)) so)))), (h, .inr (3, [.ref aK, .ref aF, .ref aS, .ref aZ, .int (nI n), .ref aL, .int (nI sc), .ref aH, .int (nI nc), .ref sA, .ref sF, .int (nI nr), .ref aP, .ref aC, .int (nI np), .int (zI mt), .ref mL, .ref mA, .long mb, .int (nI mc), .ref tr]))] := by rw [fq_0]; exact hD
    exact k_zret (v := nI 0) hx hb hr hlocks rfl () (by rw [hY]; rfl) hP hD hK hS [3, 0, 1, 2] (by decide) rfl d_R_solids_49
  · obtain ⟨j, hj, rfl⟩ := lotB_nat (by omega) c_5
    have hcl : (nI j).toNatClampNeg = j := nI_clamp (by omega)
    refine lv_aload_n hx hb d_R_solids_8 rfl (lv_at hl 0 rfl) ?_
    refine va_get (D := (dC, dI)) (ci := 3) (v := .ref aZ) (C := R_R) (T := T_R) (N := 21) hx hb hts iT_R hown hK hP 3 rfl rfl 3 (by decide) (hts _ wd_212) (fun _ h9 => h9) rfl d_R_solids_9 ?_
    refine lv_iload_n hx hb d_R_solids_12 rfl (lv_at hl 1 rfl) ?_
    refine k_zald (j := j) hx hb hK hP 0 2 rfl rfl (by omega) (by decide) d_R_solids_13 ?_
    refine lv_if_ne (tgt := 48) hx hb d_R_solids_14 (by decide) (fun c_14 => ?_) (fun c_14 => ?_)
    · refine lv_iconst (v := nI 0) hx hb d_R_solids_48 (by decide) ?_
      have hY : soY n sp ft (nI j) a b = false := by first | (unfold soY unB; rw [c_5]; rfl) | (unfold soY unB; rw [c_5, hcl, decide_eq_false c_14]; rfl) | (unfold soY nP; rw [hU, decide_eq_true (wp_lt c_24)]; rfl) | (unfold soY nP; rw [hU, decide_eq_false (wp_ge c_24), hcl, decide_eq_false (Int64.not_le.mpr c_44)]; rfl)
      have fq_0 : bL (soY n sp ft (nI j) a b) (vp_updL so (nI j).toNatClampNeg (wpF a b)) so = so := bL_f hY
      have hP : va_P (dC, dI) vwCl [(aZ, .inl (cZ, 60, .inl sp)), (aF, .inl (cJ, 60, .inr (.inl ft))), (aS, .inl (cJ, 60, .inr (.inl (bL (soY n sp ft (nI j) a b) (vp_updL so (nI j).toNatClampNeg (wpF a b)) so)))), (h, .inr (3, [.ref aK, .ref aF, .ref aS, .ref aZ, .int (nI n), .ref aL, .int (nI sc), .ref aH, .int (nI nc), .ref sA, .ref sF, .int (nI nr), .ref aP, .ref aC, .int (nI np), .int (zI mt), .ref mL, .ref mA, .long mb, .int (nI mc), .ref tr]))] H := by rw [fq_0]; exact hP
      have hD : va_D A [(aZ, .inl (cZ, 60, .inl sp)), (aF, .inl (cJ, 60, .inr (.inl ft))), (aS, .inl (cJ, 60, .inr (.inl (bL (soY n sp ft (nI j) a b) (vp_updL so (nI j).toNatClampNeg (wpF a b)) so)))), (h, .inr (3, [.ref aK, .ref aF, .ref aS, .ref aZ, .int (nI n), .ref aL, .int (nI sc), .ref aH, .int (nI nc), .ref sA, .ref sF, .int (nI nr), .ref aP, .ref aC, .int (nI np), .int (zI mt), .ref mL, .ref mA, .long mb, .int (nI mc), .ref tr]))] := by rw [fq_0]; exact hD
      exact k_zret (v := nI 0) hx hb hr hlocks rfl () (by rw [hY]; rfl) hP hD hK hS [3, 0, 1, 2] (by decide) rfl d_R_solids_49
    · have hU : unB n sp (nI j) = true := by unfold unB; rw [c_5, hcl, decide_eq_true c_14]; rfl
      refine lv_lload_n hx hb d_R_solids_17 rfl (lv_at hl 2 rfl) ?_
      refine lv_lload hx hb d_R_solids_18 (lv_at hl 3 rfl) ?_
      refine k_calll (wr := [(aZ, .inl (cZ, 60, .inl sp)), (aF, .inl (cJ, 60, .inr (.inl ft))), (aS, .inl (cJ, 60, .inr (.inl so))), (h, .inr (3, [.ref aK, .ref aF, .ref aS, .ref aZ, .int (nI n), .ref aL, .int (nI sc), .ref aH, .int (nI nc), .ref sA, .ref sF, .int (nI nr), .ref aP, .ref aC, .int (nI np), .int (zI mt), .ref mL, .ref mA, .long mb, .int (nI mc), .ref tr]))]) (va_runS (As := [.long a, .long b]) (rest := []) ⟨hx, hb, hml, hown, hts⟩ (k_R_parts l dC dI cJ cI cZ _ a b) (k_cs (y := y_R_parts) (own := R_R) hts wd_231 wd_224 wd_226 wd_225 hd_R_parts ⟨Nat.le_of_ble_eq_true rfl, Nat.le_of_ble_eq_true rfl⟩) (k_preS hP hD hK [] rfl (by decide)) rfl rfl hl.1 rfl (lv_room (Nat.le_of_ble_eq_true rfl)) d_R_solids_20 ⟨Nat.le_of_ble_eq_true rfl, Nat.le_of_ble_eq_true rfl⟩) hP hD hS hA [] [0, 1, 2, 3] rfl rfl (by decide) (by decide) (fun r_20 uu H locs hpo hP hD hS => ?_)
      have hpo : r_20 = wpF a b := hpo
      subst hpo
      have hP : va_P (dC, dI) vwCl [(aZ, .inl (cZ, 60, .inl sp)), (aF, .inl (cJ, 60, .inr (.inl ft))), (aS, .inl (cJ, 60, .inr (.inl so))), (h, .inr (3, [.ref aK, .ref aF, .ref aS, .ref aZ, .int (nI n), .ref aL, .int (nI sc), .ref aH, .int (nI nc), .ref sA, .ref sF, .int (nI nr), .ref aP, .ref aC, .int (nI np), .int (zI mt), .ref mL, .ref mA, .long mb, .int (nI mc), .ref tr]))] H := hP
      have hD : va_D A [(aZ, .inl (cZ, 60, .inl sp)), (aF, .inl (cJ, 60, .inr (.inl ft))), (aS, .inl (cJ, 60, .inr (.inl so))), (h, .inr (3, [.ref aK, .ref aF, .ref aS, .ref aZ, .int (nI n), .ref aL, .int (nI sc), .ref aH, .int (nI nc), .ref sA, .ref sF, .int (nI nr), .ref aP, .ref aC, .int (nI np), .int (zI mt), .ref mL, .ref mA, .long mb, .int (nI mc), .ref tr]))] := hD
      refine lv_lconst (v := 0) hx hb d_R_solids_23 (by decide) ?_
      refine k_jlt (tgt := 48) hx hb d_R_solids_24 d_R_solids_25 (by decide) (fun c_24 => ?_) (fun c_24 => ?_)
      · refine lv_iconst (v := nI 0) hx hb d_R_solids_48 (by decide) ?_
        have hY : soY n sp ft (nI j) a b = false := by first | (unfold soY unB; rw [c_5]; rfl) | (unfold soY unB; rw [c_5, hcl, decide_eq_false c_14]; rfl) | (unfold soY nP; rw [hU, decide_eq_true (wp_lt c_24)]; rfl) | (unfold soY nP; rw [hU, decide_eq_false (wp_ge c_24), hcl, decide_eq_false (Int64.not_le.mpr c_44)]; rfl)
        have fq_0 : bL (soY n sp ft (nI j) a b) (vp_updL so (nI j).toNatClampNeg (wpF a b)) so = so := bL_f hY
        have hP : va_P (dC, dI) vwCl [(aZ, .inl (cZ, 60, .inl sp)), (aF, .inl (cJ, 60, .inr (.inl ft))), (aS, .inl (cJ, 60, .inr (.inl (bL (soY n sp ft (nI j) a b) (vp_updL so (nI j).toNatClampNeg (wpF a b)) so)))), (h, .inr (3, [.ref aK, .ref aF, .ref aS, .ref aZ, .int (nI n), .ref aL, .int (nI sc), .ref aH, .int (nI nc), .ref sA, .ref sF, .int (nI nr), .ref aP, .ref aC, .int (nI np), .int (zI mt), .ref mL, .ref mA, .long mb, .int (nI mc), .ref tr]))] H := by rw [fq_0]; exact hP
        have hD : va_D A [(aZ, .inl (cZ, 60, .inl sp)), (aF, .inl (cJ, 60, .inr (.inl ft))), (aS, .inl (cJ, 60, .inr (.inl (bL (soY n sp ft (nI j) a b) (vp_updL so (nI j).toNatClampNeg (wpF a b)) so)))), (h, .inr (3, [.ref aK, .ref aF, .ref aS, .ref aZ, .int (nI n), .ref aL, .int (nI sc), .ref aH, .int (nI nc), .ref sA, .ref sF, .int (nI nr), .ref aP, .ref aC, .int (nI np), .int (zI mt), .ref mL, .ref mA, .long mb, .int (nI mc), .ref tr]))] := by rw [fq_0]; exact hD
        exact k_zret (v := nI 0) hx hb hr hlocks rfl () (by rw [hY]; rfl) hP hD hK hS [3, 0, 1, 2] (by decide) rfl d_R_solids_49
      · refine lv_lload_n hx hb d_R_solids_28 rfl (lv_at hl 2 rfl) ?_
        refine lv_lload hx hb d_R_solids_29 (lv_at hl 3 rfl) ?_
        refine k_calll (wr := [(aZ, .inl (cZ, 60, .inl sp)), (aF, .inl (cJ, 60, .inr (.inl ft))), (aS, .inl (cJ, 60, .inr (.inl so))), (h, .inr (3, [.ref aK, .ref aF, .ref aS, .ref aZ, .int (nI n), .ref aL, .int (nI sc), .ref aH, .int (nI nc), .ref sA, .ref sF, .int (nI nr), .ref aP, .ref aC, .int (nI np), .int (zI mt), .ref mL, .ref mA, .long mb, .int (nI mc), .ref tr]))]) (va_runS (As := [.long a, .long b]) (rest := []) ⟨hx, hb, hml, hown, hts⟩ (k_R_parts l dC dI cJ cI cZ _ a b) (k_cs (y := y_R_parts) (own := R_R) hts wd_231 wd_224 wd_226 wd_225 hd_R_parts ⟨Nat.le_of_ble_eq_true rfl, Nat.le_of_ble_eq_true rfl⟩) (k_preS hP hD hK [] rfl (by decide)) rfl rfl hl.1 rfl (lv_room (Nat.le_of_ble_eq_true rfl)) d_R_solids_31 ⟨Nat.le_of_ble_eq_true rfl, Nat.le_of_ble_eq_true rfl⟩) hP hD hS hA [] [0, 1, 2, 3] rfl rfl (by decide) (by decide) (fun r_31 uu H locs hpo hP hD hS => ?_)
        have hpo : r_31 = wpF a b := hpo
        subst hpo
        have hP : va_P (dC, dI) vwCl [(aZ, .inl (cZ, 60, .inl sp)), (aF, .inl (cJ, 60, .inr (.inl ft))), (aS, .inl (cJ, 60, .inr (.inl so))), (h, .inr (3, [.ref aK, .ref aF, .ref aS, .ref aZ, .int (nI n), .ref aL, .int (nI sc), .ref aH, .int (nI nc), .ref sA, .ref sF, .int (nI nr), .ref aP, .ref aC, .int (nI np), .int (zI mt), .ref mL, .ref mA, .long mb, .int (nI mc), .ref tr]))] H := hP
        have hD : va_D A [(aZ, .inl (cZ, 60, .inl sp)), (aF, .inl (cJ, 60, .inr (.inl ft))), (aS, .inl (cJ, 60, .inr (.inl so))), (h, .inr (3, [.ref aK, .ref aF, .ref aS, .ref aZ, .int (nI n), .ref aL, .int (nI sc), .ref aH, .int (nI nc), .ref sA, .ref sF, .int (nI nr), .ref aP, .ref aC, .int (nI np), .int (zI mt), .ref mL, .ref mA, .long mb, .int (nI mc), .ref tr]))] := hD
        refine lv_aload_n hx hb d_R_solids_34 rfl (lv_at hl 0 rfl) ?_
        refine va_get (D := (dC, dI)) (ci := 3) (v := .ref aF) (C := R_R) (T := T_R) (N := 21) hx hb hts iT_R hown hK hP 3 rfl rfl 1 (by decide) (hts _ wd_210) (fun _ h9 => h9) rfl d_R_solids_35 ?_
        refine lv_iload_n hx hb d_R_solids_38 rfl (lv_at hl 1 rfl) ?_
        refine k_lald (j := j) hx hb hK hP 1 0 rfl rfl (by omega) (by decide) d_R_solids_39 ?_
        refine lv_ladd hx hb d_R_solids_40 ?_
        refine k_tol (y := ft j + wpF a b) (Int64.add_comm _ _) ?_
        refine lv_ldc2 (v := 10000) hx hb hown (hts _ wd_232) d_R_solids_41 ?_
        refine k_jle (tgt := 50) hx hb d_R_solids_44 d_R_solids_45 (by decide) (fun c_44 => ?_) (fun c_44 => ?_)
        · refine lv_aload_n hx hb d_R_solids_50 rfl (lv_at hl 0 rfl) ?_
          refine va_get (D := (dC, dI)) (ci := 3) (v := .ref aS) (C := R_R) (T := T_R) (N := 21) hx hb hts iT_R hown hK hP 3 rfl rfl 2 (by decide) (hts _ wd_211) (fun _ h9 => h9) rfl d_R_solids_51 ?_
          refine lv_iload_n hx hb d_R_solids_54 rfl (lv_at hl 1 rfl) ?_
          refine lv_lload_n hx hb d_R_solids_55 rfl (lv_at hl 2 rfl) ?_
          refine lv_lload hx hb d_R_solids_56 (lv_at hl 3 rfl) ?_
          refine k_calll (wr := [(aZ, .inl (cZ, 60, .inl sp)), (aF, .inl (cJ, 60, .inr (.inl ft))), (aS, .inl (cJ, 60, .inr (.inl so))), (h, .inr (3, [.ref aK, .ref aF, .ref aS, .ref aZ, .int (nI n), .ref aL, .int (nI sc), .ref aH, .int (nI nc), .ref sA, .ref sF, .int (nI nr), .ref aP, .ref aC, .int (nI np), .int (zI mt), .ref mL, .ref mA, .long mb, .int (nI mc), .ref tr]))]) (va_runS (As := [.long a, .long b]) (rest := [.int (nI j), .ref aS]) ⟨hx, hb, hml, hown, hts⟩ (k_R_parts l dC dI cJ cI cZ _ a b) (k_cs (y := y_R_parts) (own := R_R) hts wd_231 wd_224 wd_226 wd_225 hd_R_parts ⟨Nat.le_of_ble_eq_true rfl, Nat.le_of_ble_eq_true rfl⟩) (k_preS hP hD hK [] rfl (by decide)) rfl rfl hl.1 rfl (lv_room (Nat.le_of_ble_eq_true rfl)) d_R_solids_58 ⟨Nat.le_of_ble_eq_true rfl, Nat.le_of_ble_eq_true rfl⟩) hP hD hS hA [] [0, 1, 2, 3] rfl rfl (by decide) (by decide) (fun r_58 uu H locs hpo hP hD hS => ?_)
          have hpo : r_58 = wpF a b := hpo
          subst hpo
          have hP : va_P (dC, dI) vwCl [(aZ, .inl (cZ, 60, .inl sp)), (aF, .inl (cJ, 60, .inr (.inl ft))), (aS, .inl (cJ, 60, .inr (.inl so))), (h, .inr (3, [.ref aK, .ref aF, .ref aS, .ref aZ, .int (nI n), .ref aL, .int (nI sc), .ref aH, .int (nI nc), .ref sA, .ref sF, .int (nI nr), .ref aP, .ref aC, .int (nI np), .int (zI mt), .ref mL, .ref mA, .long mb, .int (nI mc), .ref tr]))] H := hP
          have hD : va_D A [(aZ, .inl (cZ, 60, .inl sp)), (aF, .inl (cJ, 60, .inr (.inl ft))), (aS, .inl (cJ, 60, .inr (.inl so))), (h, .inr (3, [.ref aK, .ref aF, .ref aS, .ref aZ, .int (nI n), .ref aL, .int (nI sc), .ref aH, .int (nI nc), .ref sA, .ref sF, .int (nI nr), .ref aP, .ref aC, .int (nI np), .int (zI mt), .ref mL, .ref mA, .long mb, .int (nI mc), .ref tr]))] := hD
          refine k_last (j := j) hx hb hK hP hD hS 2 0 rfl rfl (by omega) (by decide) d_R_solids_61 (fun H locs hP hD hS => ?_)
          have hP : va_P (dC, dI) vwCl [(aZ, .inl (cZ, 60, .inl sp)), (aF, .inl (cJ, 60, .inr (.inl ft))), (aS, .inl (cJ, 60, .inr (.inl (vp_updL so j (wpF a b))))), (h, .inr (3, [.ref aK, .ref aF, .ref aS, .ref aZ, .int (nI n), .ref aL, .int (nI sc), .ref aH, .int (nI nc), .ref sA, .ref sF, .int (nI nr), .ref aP, .ref aC, .int (nI np), .int (zI mt), .ref mL, .ref mA, .long mb, .int (nI mc), .ref tr]))] H := hP
          have hD : va_D A [(aZ, .inl (cZ, 60, .inl sp)), (aF, .inl (cJ, 60, .inr (.inl ft))), (aS, .inl (cJ, 60, .inr (.inl (vp_updL so j (wpF a b))))), (h, .inr (3, [.ref aK, .ref aF, .ref aS, .ref aZ, .int (nI n), .ref aL, .int (nI sc), .ref aH, .int (nI nc), .ref sA, .ref sF, .int (nI nr), .ref aP, .ref aC, .int (nI np), .int (zI mt), .ref mL, .ref mA, .long mb, .int (nI mc), .ref tr]))] := hD
          refine lv_iconst (v := nI 1) hx hb d_R_solids_62 (by decide) ?_
          have hY : soY n sp ft (nI j) a b = true := by unfold soY nP; rw [hU, decide_eq_false (wp_ge c_24), hcl, decide_eq_true c_44]; rfl
          have fq_0 : bL (soY n sp ft (nI j) a b) (vp_updL so (nI j).toNatClampNeg (wpF a b)) so = vp_updL so j (wpF a b) := (bL_t hY).trans (by rw [hcl])
          have hP : va_P (dC, dI) vwCl [(aZ, .inl (cZ, 60, .inl sp)), (aF, .inl (cJ, 60, .inr (.inl ft))), (aS, .inl (cJ, 60, .inr (.inl (bL (soY n sp ft (nI j) a b) (vp_updL so (nI j).toNatClampNeg (wpF a b)) so)))), (h, .inr (3, [.ref aK, .ref aF, .ref aS, .ref aZ, .int (nI n), .ref aL, .int (nI sc), .ref aH, .int (nI nc), .ref sA, .ref sF, .int (nI nr), .ref aP, .ref aC, .int (nI np), .int (zI mt), .ref mL, .ref mA, .long mb, .int (nI mc), .ref tr]))] H := by rw [fq_0]; exact hP
          have hD : va_D A [(aZ, .inl (cZ, 60, .inl sp)), (aF, .inl (cJ, 60, .inr (.inl ft))), (aS, .inl (cJ, 60, .inr (.inl (bL (soY n sp ft (nI j) a b) (vp_updL so (nI j).toNatClampNeg (wpF a b)) so)))), (h, .inr (3, [.ref aK, .ref aF, .ref aS, .ref aZ, .int (nI n), .ref aL, .int (nI sc), .ref aH, .int (nI nc), .ref sA, .ref sF, .int (nI nr), .ref aP, .ref aC, .int (nI np), .int (zI mt), .ref mL, .ref mA, .long mb, .int (nI mc), .ref tr]))] := by rw [fq_0]; exact hD
          exact k_zret (v := nI 1) hx hb hr hlocks rfl () (by rw [hY]; rfl) hP hD hK hS [3, 0, 1, 2] (by decide) rfl d_R_solids_63
        · refine lv_iconst (v := nI 0) hx hb d_R_solids_48 (by decide) ?_
          have hY : soY n sp ft (nI j) a b = false := by first | (unfold soY unB; rw [c_5]; rfl) | (unfold soY unB; rw [c_5, hcl, decide_eq_false c_14]; rfl) | (unfold soY nP; rw [hU, decide_eq_true (wp_lt c_24)]; rfl) | (unfold soY nP; rw [hU, decide_eq_false (wp_ge c_24), hcl, decide_eq_false (Int64.not_le.mpr c_44)]; rfl)
          have fq_0 : bL (soY n sp ft (nI j) a b) (vp_updL so (nI j).toNatClampNeg (wpF a b)) so = so := bL_f hY
          have hP : va_P (dC, dI) vwCl [(aZ, .inl (cZ, 60, .inl sp)), (aF, .inl (cJ, 60, .inr (.inl ft))), (aS, .inl (cJ, 60, .inr (.inl (bL (soY n sp ft (nI j) a b) (vp_updL so (nI j).toNatClampNeg (wpF a b)) so)))), (h, .inr (3, [.ref aK, .ref aF, .ref aS, .ref aZ, .int (nI n), .ref aL, .int (nI sc), .ref aH, .int (nI nc), .ref sA, .ref sF, .int (nI nr), .ref aP, .ref aC, .int (nI np), .int (zI mt), .ref mL, .ref mA, .long mb, .int (nI mc), .ref tr]))] H := by rw [fq_0]; exact hP
          have hD : va_D A [(aZ, .inl (cZ, 60, .inl sp)), (aF, .inl (cJ, 60, .inr (.inl ft))), (aS, .inl (cJ, 60, .inr (.inl (bL (soY n sp ft (nI j) a b) (vp_updL so (nI j).toNatClampNeg (wpF a b)) so)))), (h, .inr (3, [.ref aK, .ref aF, .ref aS, .ref aZ, .int (nI n), .ref aL, .int (nI sc), .ref aH, .int (nI nc), .ref sA, .ref sF, .int (nI nr), .ref aP, .ref aC, .int (nI np), .int (zI mt), .ref mL, .ref mA, .long mb, .int (nI mc), .ref tr]))] := by rw [fq_0]; exact hD
          exact k_zret (v := nI 0) hx hb hr hlocks rfl () (by rw [hY]; rfl) hP hD hK hS [3, 0, 1, 2] (by decide) rfl d_R_solids_49
/-- R_clearChosen -/
abbrev q_R_clearChosen (dC : Nat → ClassId) (dI : Nat → Nat → Nat) (cJ cI cZ : ClassId) (h : Nat) (aK : Nat) (aF : Nat) (aS : Nat) (aZ : Nat) (aL : Nat) (aH : Nat) (sA : Nat) (sF : Nat) (aP : Nat) (aC : Nat) (mL : Nat) (mA : Nat) (tr : Nat) (n : Nat) (sc : Nat) (nc : Nat) (nr : Nat) (np : Nat) (mt : Bool) (mb : Int64) (mc : Nat) (A : Nat → Prop) : Array Value → State → Outcome → State → Prop := va_Qv (fun (_ : Unit) => True) (kB (dC, dI) vwCl [(cJ, .long), (cI, .int), (cZ, .boolean)] A (fun (_ : Unit) => [(h, .inr (3, [.ref aK, .ref aF, .ref aS, .ref aZ, .int (nI n), .ref aL, .int (nI sc), .ref aH, .int (nI 0), .ref sA, .ref sF, .int (nI nr), .ref aP, .ref aC, .int (nI np), .int (zI mt), .ref mL, .ref mA, .long mb, .int (nI mc), .ref tr]))])) A
set_option maxHeartbeats 4000000 in
set_option maxRecDepth 100000 in
theorem k_R_clearChosen (l : Launch) (dC : Nat → ClassId) (dI : Nat → Nat → Nat) (cJ cI cZ : ClassId) (sz : Nat) (h : Nat) (aK : Nat) (aF : Nat) (aS : Nat) (aZ : Nat) (aL : Nat) (aH : Nat) (sA : Nat) (sF : Nat) (aP : Nat) (aC : Nat) (mL : Nat) (mA : Nat) (tr : Nat) (n : Nat) (sc : Nat) (nc : Nat) (nr : Nat) (np : Nat) (mt : Bool) (mb : Int64) (mc : Nat)  : Met l y_R_clearChosen w_R_clearChosen { frames := 0, cells := 0, slots := 0, locals := 0 } (kPc (dC, dI) vwCl [(cJ, .long), (cI, .int), (cZ, .boolean)] [(h, .inr (3, [.ref aK, .ref aF, .ref aS, .ref aZ, .int (nI n), .ref aL, .int (nI sc), .ref aH, .int (nI nc), .ref sA, .ref sF, .int (nI nr), .ref aP, .ref aC, .int (nI np), .int (zI mt), .ref mL, .ref mA, .long mb, .int (nI mc), .ref tr]))] sz [.ref h]) (q_R_clearChosen dC dI cJ cI cZ h aK aF aS aZ aL aH sA sF aP aC mL mA tr n sc nc nr np mt mb mc (va_A [(h, .inr (3, [.ref aK, .ref aF, .ref aS, .ref aZ, .int (nI n), .ref aL, .int (nI sc), .ref aH, .int (nI nc), .ref sA, .ref sF, .int (nI nr), .ref aP, .ref aC, .int (nI np), .int (zI mt), .ref mL, .ref mA, .long mb, .int (nI mc), .ref tr]))] sz)) 0 0 (va_A [(h, .inr (3, [.ref aK, .ref aF, .ref aS, .ref aZ, .int (nI n), .ref aL, .int (nI sc), .ref aH, .int (nI nc), .ref sA, .ref sF, .int (nI nr), .ref aP, .ref aC, .int (nI np), .int (zI mt), .ref mL, .ref mA, .long mb, .int (nI mc), .ref tr]))] sz) := by
  refine k_met (q_R_clearChosen dC dI cJ cI cZ h aK aF aS aZ aL aH sA sF aP aC mL mA tr n sc nc nr np mt mb mc) (by decide +kernel) rfl (Nat.le_of_ble_eq_true rfl) ?_
  intro p e s m below meth c A hx hb hr hml hown hts hlocks hin hA H hP hK hD hS ls hl
  have hl : lv_has ls 1 [(0, .ref h)] := hl
  have hown : s.vm.findClass R_R = some m.cls := hown
  have hts : ∀ wW ∈ kT, wW.before [.ref h].toArray s = true := fun wW hW => hts wW (List.mem_cons_of_mem _ hW)
  refine lv_aload_n hx hb d_R_clearChosen_0 rfl (lv_at hl 0 rfl) ?_
  refine lv_iconst (v := nI 0) hx hb d_R_clearChosen_1 (by decide) ?_
  refine va_put (D := (dC, dI)) (ci := 3) (v := .int (nI 0)) (ty := .int) (C := R_R) (T := T_R) (N := 21) hx hb hts iT_R t_R t_R_ok n_R hown hK hP hD hS 0 rfl rfl 8 (by decide) (hts _ wd_245) (fun _ h9 => h9) rfl (by decide +kernel) rfl rfl (Nat.le_of_ble_eq_true rfl) d_R_clearChosen_2 (fun H locs hP hD hS => ?_)
  have hP : va_P (dC, dI) vwCl [(h, .inr (3, [.ref aK, .ref aF, .ref aS, .ref aZ, .int (nI n), .ref aL, .int (nI sc), .ref aH, .int (nI 0), .ref sA, .ref sF, .int (nI nr), .ref aP, .ref aC, .int (nI np), .int (zI mt), .ref mL, .ref mA, .long mb, .int (nI mc), .ref tr]))] H := hP
  have hD : va_D A [(h, .inr (3, [.ref aK, .ref aF, .ref aS, .ref aZ, .int (nI n), .ref aL, .int (nI sc), .ref aH, .int (nI 0), .ref sA, .ref sF, .int (nI nr), .ref aP, .ref aC, .int (nI np), .int (zI mt), .ref mL, .ref mA, .long mb, .int (nI mc), .ref tr]))] := hD
  exact k_vret hx hb hr hlocks () trivial hP hD hK hS [0] (by decide) rfl d_R_clearChosen_5
/-- R_loss -/
abbrev q_R_loss (dC : Nat → ClassId) (dI : Nat → Nat → Nat) (cJ cI cZ : ClassId) (h : Nat) (aK : Nat) (aF : Nat) (aS : Nat) (aZ : Nat) (aL : Nat) (aH : Nat) (sA : Nat) (sF : Nat) (aP : Nat) (aC : Nat) (mL : Nat) (mA : Nat) (tr : Nat) (n : Nat) (sc : Nat) (nc : Nat) (nr : Nat) (np : Nat) (mt : Bool) (mb : Int64) (mc : Nat) (lo : Nat → Int64) (x : Int32) (A : Nat → Prop) : Array Value → State → Outcome → State → Prop := va_Ql (fun (r : Int64) (_ : Unit) => r = lsA sc lo x) (kB (dC, dI) vwCl [(cJ, .long), (cI, .int), (cZ, .boolean)] A (fun (_ : Unit) => [(h, .inr (3, [.ref aK, .ref aF, .ref aS, .ref aZ, .int (nI n), .ref aL, .int (nI sc), .ref aH, .int (nI nc), .ref sA, .ref sF, .int (nI nr), .ref aP, .ref aC, .int (nI np), .int (zI mt), .ref mL, .ref mA, .long mb, .int (nI mc), .ref tr])), (aL, .inl (cJ, 60, .inr (.inl lo)))])) A
set_option maxHeartbeats 4000000 in
set_option maxRecDepth 100000 in
theorem k_R_loss (l : Launch) (dC : Nat → ClassId) (dI : Nat → Nat → Nat) (cJ cI cZ : ClassId) (sz : Nat) (h : Nat) (aK : Nat) (aF : Nat) (aS : Nat) (aZ : Nat) (aL : Nat) (aH : Nat) (sA : Nat) (sF : Nat) (aP : Nat) (aC : Nat) (mL : Nat) (mA : Nat) (tr : Nat) (n : Nat) (sc : Nat) (nc : Nat) (nr : Nat) (np : Nat) (mt : Bool) (mb : Int64) (mc : Nat) (lo : Nat → Int64) (x : Int32) (hsc : sc ≤ 60) : Met l y_R_loss w_R_loss { frames := 0, cells := 0, slots := 0, locals := 0 } (kPc (dC, dI) vwCl [(cJ, .long), (cI, .int), (cZ, .boolean)] [(h, .inr (3, [.ref aK, .ref aF, .ref aS, .ref aZ, .int (nI n), .ref aL, .int (nI sc), .ref aH, .int (nI nc), .ref sA, .ref sF, .int (nI nr), .ref aP, .ref aC, .int (nI np), .int (zI mt), .ref mL, .ref mA, .long mb, .int (nI mc), .ref tr])), (aL, .inl (cJ, 60, .inr (.inl lo)))] sz [.ref h, .int x]) (q_R_loss dC dI cJ cI cZ h aK aF aS aZ aL aH sA sF aP aC mL mA tr n sc nc nr np mt mb mc lo x (va_A [(h, .inr (3, [.ref aK, .ref aF, .ref aS, .ref aZ, .int (nI n), .ref aL, .int (nI sc), .ref aH, .int (nI nc), .ref sA, .ref sF, .int (nI nr), .ref aP, .ref aC, .int (nI np), .int (zI mt), .ref mL, .ref mA, .long mb, .int (nI mc), .ref tr])), (aL, .inl (cJ, 60, .inr (.inl lo)))] sz)) 0 0 (va_A [(h, .inr (3, [.ref aK, .ref aF, .ref aS, .ref aZ, .int (nI n), .ref aL, .int (nI sc), .ref aH, .int (nI nc), .ref sA, .ref sF, .int (nI nr), .ref aP, .ref aC, .int (nI np), .int (zI mt), .ref mL, .ref mA, .long mb, .int (nI mc), .ref tr])), (aL, .inl (cJ, 60, .inr (.inl lo)))] sz) := by
  refine k_met (q_R_loss dC dI cJ cI cZ h aK aF aS aZ aL aH sA sF aP aC mL mA tr n sc nc nr np mt mb mc lo x) (by decide +kernel) rfl (Nat.le_of_ble_eq_true rfl) ?_
  intro p e s m below meth c A hx hb hr hml hown hts hlocks hin hA H hP hK hD hS ls hl
  have hl : lv_has ls 2 [(0, .ref h), (1, .int x)] := hl
  have hown : s.vm.findClass R_R = some m.cls := hown
  have hts : ∀ wW ∈ kT, wW.before [.ref h, .int x].toArray s = true := fun wW hW => hts wW (List.mem_cons_of_mem _ hW)
  refine lv_iload_n hx hb d_R_loss_0 rfl (lv_at hl 1 rfl) ?_
  refine lv_if_lt (tgt := 12) hx hb d_R_loss_1 (by decide) (fun c_1 => ?_) (fun c_1 => ?_)
  · refine lv_ldc2 (v := (-1)) hx hb hown (hts _ wd_233) d_R_loss_12 ?_
    refine lv_goto (tgt := 24) hx hb d_R_loss_15 (by decide) ?_
    exact k_lret (v := (-1)) hx hb hr hlocks () (by first | (unfold lsA lotB; rw [decide_eq_true c_1]; rfl) | (unfold lsA lotB; rw [decide_eq_false c_1, decide_eq_true (Int32.not_lt.mp c_9)]; rfl) | (unfold lsA; rw [hB, hcl]; rfl)) hP hD hK hS [0, 1] (by decide) rfl d_R_loss_24
  · refine lv_iload_n hx hb d_R_loss_4 rfl (lv_at hl 1 rfl) ?_
    refine lv_aload_n hx hb d_R_loss_5 rfl (lv_at hl 0 rfl) ?_
    refine va_get (D := (dC, dI)) (ci := 3) (v := .int (nI sc)) (C := R_R) (T := T_R) (N := 21) hx hb hts iT_R hown hK hP 0 rfl rfl 6 (by decide) (hts _ wd_244) (fun _ h9 => h9) rfl d_R_loss_6 ?_
    refine lv_icmp_lt (tgt := 18) hx hb d_R_loss_9 (by decide) (fun c_9 => ?_) (fun c_9 => ?_)
    · have hB : lotB sc x = true := by unfold lotB; rw [decide_eq_false c_1, decide_eq_false (Int32.not_le.mpr c_9)]; rfl
      obtain ⟨j, hj, rfl⟩ := lotB_nat (by omega) hB
      have hcl : (nI j).toNatClampNeg = j := nI_clamp (by omega)
      refine lv_aload_n hx hb d_R_loss_18 rfl (lv_at hl 0 rfl) ?_
      refine va_get (D := (dC, dI)) (ci := 3) (v := .ref aL) (C := R_R) (T := T_R) (N := 21) hx hb hts iT_R hown hK hP 0 rfl rfl 5 (by decide) (hts _ wd_213) (fun _ h9 => h9) rfl d_R_loss_19 ?_
      refine lv_iload_n hx hb d_R_loss_22 rfl (lv_at hl 1 rfl) ?_
      refine k_lald (j := j) hx hb hK hP 1 0 rfl rfl (by omega) (by decide) d_R_loss_23 ?_
      exact k_lret (v := lo j) hx hb hr hlocks () (by first | (unfold lsA lotB; rw [decide_eq_true c_1]; rfl) | (unfold lsA lotB; rw [decide_eq_false c_1, decide_eq_true (Int32.not_lt.mp c_9)]; rfl) | (unfold lsA; rw [hB, hcl]; rfl)) hP hD hK hS [0, 1] (by decide) rfl d_R_loss_24
    · refine lv_ldc2 (v := (-1)) hx hb hown (hts _ wd_233) d_R_loss_12 ?_
      refine lv_goto (tgt := 24) hx hb d_R_loss_15 (by decide) ?_
      exact k_lret (v := (-1)) hx hb hr hlocks () (by first | (unfold lsA lotB; rw [decide_eq_true c_1]; rfl) | (unfold lsA lotB; rw [decide_eq_false c_1, decide_eq_true (Int32.not_lt.mp c_9)]; rfl) | (unfold lsA; rw [hB, hcl]; rfl)) hP hD hK hS [0, 1] (by decide) rfl d_R_loss_24
/-- R_penalty -/
abbrev q_R_penalty (dC : Nat → ClassId) (dI : Nat → Nat → Nat) (cJ cI cZ : ClassId) (h : Nat) (aK : Nat) (aF : Nat) (aS : Nat) (aZ : Nat) (aL : Nat) (aH : Nat) (sA : Nat) (sF : Nat) (aP : Nat) (aC : Nat) (mL : Nat) (mA : Nat) (tr : Nat) (n : Nat) (sc : Nat) (nc : Nat) (nr : Nat) (np : Nat) (mt : Bool) (mb : Int64) (mc : Nat) (pf : Nat → Int64) (pz : Nat → Int64) (fr : Int64) (ce : Int64) (A : Nat → Prop) : Array Value → State → Outcome → State → Prop := va_Qi (fun (r : Int32) (_ : Unit) => r = zI (peY np fr ce)) (kB (dC, dI) vwCl [(cJ, .long), (cI, .int), (cZ, .boolean)] A (fun (_ : Unit) => [(h, .inr (3, [.ref aK, .ref aF, .ref aS, .ref aZ, .int (nI n), .ref aL, .int (nI sc), .ref aH, .int (nI nc), .ref sA, .ref sF, .int (nI nr), .ref aP, .ref aC, .int (nI (bN (peY np fr ce) (np + 1) np)), .int (zI mt), .ref mL, .ref mA, .long mb, .int (nI mc), .ref tr])), (aP, .inl (cJ, 10, .inr (.inl (bL (peY np fr ce) (vp_updL pf np fr) pf)))), (aC, .inl (cJ, 10, .inr (.inl (bL (peY np fr ce) (vp_updL pz np ce) pz))))])) A
set_option maxHeartbeats 4000000 in
set_option maxRecDepth 100000 in
theorem k_R_penalty (l : Launch) (dC : Nat → ClassId) (dI : Nat → Nat → Nat) (cJ cI cZ : ClassId) (sz : Nat) (h : Nat) (aK : Nat) (aF : Nat) (aS : Nat) (aZ : Nat) (aL : Nat) (aH : Nat) (sA : Nat) (sF : Nat) (aP : Nat) (aC : Nat) (mL : Nat) (mA : Nat) (tr : Nat) (n : Nat) (sc : Nat) (nc : Nat) (nr : Nat) (np : Nat) (mt : Bool) (mb : Int64) (mc : Nat) (pf : Nat → Int64) (pz : Nat → Int64) (fr : Int64) (ce : Int64) (hnp : np ≤ 10) : Met l y_R_penalty w_R_penalty { frames := 0, cells := 0, slots := 0, locals := 0 } (kPc (dC, dI) vwCl [(cJ, .long), (cI, .int), (cZ, .boolean)] [(h, .inr (3, [.ref aK, .ref aF, .ref aS, .ref aZ, .int (nI n), .ref aL, .int (nI sc), .ref aH, .int (nI nc), .ref sA, .ref sF, .int (nI nr), .ref aP, .ref aC, .int (nI np), .int (zI mt), .ref mL, .ref mA, .long mb, .int (nI mc), .ref tr])), (aP, .inl (cJ, 10, .inr (.inl pf))), (aC, .inl (cJ, 10, .inr (.inl pz)))] sz [.ref h, .long fr, .long ce]) (q_R_penalty dC dI cJ cI cZ h aK aF aS aZ aL aH sA sF aP aC mL mA tr n sc nc nr np mt mb mc pf pz fr ce (va_A [(h, .inr (3, [.ref aK, .ref aF, .ref aS, .ref aZ, .int (nI n), .ref aL, .int (nI sc), .ref aH, .int (nI nc), .ref sA, .ref sF, .int (nI nr), .ref aP, .ref aC, .int (nI np), .int (zI mt), .ref mL, .ref mA, .long mb, .int (nI mc), .ref tr])), (aP, .inl (cJ, 10, .inr (.inl pf))), (aC, .inl (cJ, 10, .inr (.inl pz)))] sz)) 0 0 (va_A [(h, .inr (3, [.ref aK, .ref aF, .ref aS, .ref aZ, .int (nI n), .ref aL, .int (nI sc), .ref aH, .int (nI nc), .ref sA, .ref sF, .int (nI nr), .ref aP, .ref aC, .int (nI np), .int (zI mt), .ref mL, .ref mA, .long mb, .int (nI mc), .ref tr])), (aP, .inl (cJ, 10, .inr (.inl pf))), (aC, .inl (cJ, 10, .inr (.inl pz)))] sz) := by
  refine k_met (q_R_penalty dC dI cJ cI cZ h aK aF aS aZ aL aH sA sF aP aC mL mA tr n sc nc nr np mt mb mc pf pz fr ce) (by decide +kernel) rfl (Nat.le_of_ble_eq_true rfl) ?_
  intro p e s m below meth c A hx hb hr hml hown hts hlocks hin hA H hP hK hD hS ls hl
  have hl : lv_has ls 5 [(0, .ref h), (1, .long fr), (3, .long ce)] := hl
  have hown : s.vm.findClass R_R = some m.cls := hown
  have hts : ∀ wW ∈ kT, wW.before [.ref h, .long fr, .long ce].toArray s = true := fun wW hW => hts wW (List.mem_cons_of_mem _ hW)
  refine lv_lload_n hx hb d_R_penalty_0 rfl (lv_at hl 1 rfl) ?_
  refine lv_lconst (v := 1) hx hb d_R_penalty_1 (by decide) ?_
  refine k_jlt (tgt := 37) hx hb d_R_penalty_2 d_R_penalty_3 (by decide) (fun c_2 => ?_) (fun c_2 => ?_)
  · refine lv_iconst (v := nI 0) hx hb d_R_penalty_37 (by decide) ?_
    have hY : peY np fr ce = false := by first | (unfold peY inB; rw [decide_eq_false (Int64.not_le.mpr c_2)]; rfl) | (unfold peY inB; rw [decide_eq_true c_2, decide_eq_false (Int64.not_le.mpr c_10)]; rfl) | exact pe_f3 c_2 c_10 c_16 | exact pe_f4 c_2 c_10 c_16 c_24 | exact pe_f5 c_2 c_10 c_16 c_24 c_34
    have fq_0 : bN (peY np fr ce) (np + 1) np = np := bN_f hY
    have fq_1 : bL (peY np fr ce) (vp_updL pf np fr) pf = pf := bL_f hY
    have fq_2 : bL (peY np fr ce) (vp_updL pz np ce) pz = pz := bL_f hY
    have hP : va_P (dC, dI) vwCl [(h, .inr (3, [.ref aK, .ref aF, .ref aS, .ref aZ, .int (nI n), .ref aL, .int (nI sc), .ref aH, .int (nI nc), .ref sA, .ref sF, .int (nI nr), .ref aP, .ref aC, .int (nI (bN (peY np fr ce) (np + 1) np)), .int (zI mt), .ref mL, .ref mA, .long mb, .int (nI mc), .ref tr])), (aP, .inl (cJ, 10, .inr (.inl (bL (peY np fr ce) (vp_updL pf np fr) pf)))), (aC, .inl (cJ, 10, .inr (.inl (bL (peY np fr ce) (vp_updL pz np ce) pz))))] H := by rw [fq_0, fq_1, fq_2]; exact hP
    have hD : va_D A [(h, .inr (3, [.ref aK, .ref aF, .ref aS, .ref aZ, .int (nI n), .ref aL, .int (nI sc), .ref aH, .int (nI nc), .ref sA, .ref sF, .int (nI nr), .ref aP, .ref aC, .int (nI (bN (peY np fr ce) (np + 1) np)), .int (zI mt), .ref mL, .ref mA, .long mb, .int (nI mc), .ref tr])), (aP, .inl (cJ, 10, .inr (.inl (bL (peY np fr ce) (vp_updL pf np fr) pf)))), (aC, .inl (cJ, 10, .inr (.inl (bL (peY np fr ce) (vp_updL pz np ce) pz))))] := by rw [fq_0, fq_1, fq_2]; exact hD
    exact k_zret (v := nI 0) hx hb hr hlocks rfl () (by rw [hY]; rfl) hP hD hK hS [0, 1, 2] (by decide) rfl d_R_penalty_38
  · refine lv_lload_n hx hb d_R_penalty_6 rfl (lv_at hl 1 rfl) ?_
    refine lv_ldc2 (v := 10000) hx hb hown (hts _ wd_232) d_R_penalty_7 ?_
    refine k_jgt (tgt := 37) hx hb d_R_penalty_10 d_R_penalty_11 (by decide) (fun c_10 => ?_) (fun c_10 => ?_)
    · refine lv_iconst (v := nI 0) hx hb d_R_penalty_37 (by decide) ?_
      have hY : peY np fr ce = false := by first | (unfold peY inB; rw [decide_eq_false (Int64.not_le.mpr c_2)]; rfl) | (unfold peY inB; rw [decide_eq_true c_2, decide_eq_false (Int64.not_le.mpr c_10)]; rfl) | exact pe_f3 c_2 c_10 c_16 | exact pe_f4 c_2 c_10 c_16 c_24 | exact pe_f5 c_2 c_10 c_16 c_24 c_34
      have fq_0 : bN (peY np fr ce) (np + 1) np = np := bN_f hY
      have fq_1 : bL (peY np fr ce) (vp_updL pf np fr) pf = pf := bL_f hY
      have fq_2 : bL (peY np fr ce) (vp_updL pz np ce) pz = pz := bL_f hY
      have hP : va_P (dC, dI) vwCl [(h, .inr (3, [.ref aK, .ref aF, .ref aS, .ref aZ, .int (nI n), .ref aL, .int (nI sc), .ref aH, .int (nI nc), .ref sA, .ref sF, .int (nI nr), .ref aP, .ref aC, .int (nI (bN (peY np fr ce) (np + 1) np)), .int (zI mt), .ref mL, .ref mA, .long mb, .int (nI mc), .ref tr])), (aP, .inl (cJ, 10, .inr (.inl (bL (peY np fr ce) (vp_updL pf np fr) pf)))), (aC, .inl (cJ, 10, .inr (.inl (bL (peY np fr ce) (vp_updL pz np ce) pz))))] H := by rw [fq_0, fq_1, fq_2]; exact hP
      have hD : va_D A [(h, .inr (3, [.ref aK, .ref aF, .ref aS, .ref aZ, .int (nI n), .ref aL, .int (nI sc), .ref aH, .int (nI nc), .ref sA, .ref sF, .int (nI nr), .ref aP, .ref aC, .int (nI (bN (peY np fr ce) (np + 1) np)), .int (zI mt), .ref mL, .ref mA, .long mb, .int (nI mc), .ref tr])), (aP, .inl (cJ, 10, .inr (.inl (bL (peY np fr ce) (vp_updL pf np fr) pf)))), (aC, .inl (cJ, 10, .inr (.inl (bL (peY np fr ce) (vp_updL pz np ce) pz))))] := by rw [fq_0, fq_1, fq_2]; exact hD
      exact k_zret (v := nI 0) hx hb hr hlocks rfl () (by rw [hY]; rfl) hP hD hK hS [0, 1, 2] (by decide) rfl d_R_penalty_38
    · refine lv_lload_n hx hb d_R_penalty_14 rfl (lv_at hl 2 rfl) ?_
      refine lv_lconst (v := 1) hx hb d_R_penalty_15 (by decide) ?_
      refine k_jlt (tgt := 37) hx hb d_R_penalty_16 d_R_penalty_17 (by decide) (fun c_16 => ?_) (fun c_16 => ?_)
      · refine lv_iconst (v := nI 0) hx hb d_R_penalty_37 (by decide) ?_
        have hY : peY np fr ce = false := by first | (unfold peY inB; rw [decide_eq_false (Int64.not_le.mpr c_2)]; rfl) | (unfold peY inB; rw [decide_eq_true c_2, decide_eq_false (Int64.not_le.mpr c_10)]; rfl) | exact pe_f3 c_2 c_10 c_16 | exact pe_f4 c_2 c_10 c_16 c_24 | exact pe_f5 c_2 c_10 c_16 c_24 c_34
        have fq_0 : bN (peY np fr ce) (np + 1) np = np := bN_f hY
        have fq_1 : bL (peY np fr ce) (vp_updL pf np fr) pf = pf := bL_f hY
        have fq_2 : bL (peY np fr ce) (vp_updL pz np ce) pz = pz := bL_f hY
        have hP : va_P (dC, dI) vwCl [(h, .inr (3, [.ref aK, .ref aF, .ref aS, .ref aZ, .int (nI n), .ref aL, .int (nI sc), .ref aH, .int (nI nc), .ref sA, .ref sF, .int (nI nr), .ref aP, .ref aC, .int (nI (bN (peY np fr ce) (np + 1) np)), .int (zI mt), .ref mL, .ref mA, .long mb, .int (nI mc), .ref tr])), (aP, .inl (cJ, 10, .inr (.inl (bL (peY np fr ce) (vp_updL pf np fr) pf)))), (aC, .inl (cJ, 10, .inr (.inl (bL (peY np fr ce) (vp_updL pz np ce) pz))))] H := by rw [fq_0, fq_1, fq_2]; exact hP
        have hD : va_D A [(h, .inr (3, [.ref aK, .ref aF, .ref aS, .ref aZ, .int (nI n), .ref aL, .int (nI sc), .ref aH, .int (nI nc), .ref sA, .ref sF, .int (nI nr), .ref aP, .ref aC, .int (nI (bN (peY np fr ce) (np + 1) np)), .int (zI mt), .ref mL, .ref mA, .long mb, .int (nI mc), .ref tr])), (aP, .inl (cJ, 10, .inr (.inl (bL (peY np fr ce) (vp_updL pf np fr) pf)))), (aC, .inl (cJ, 10, .inr (.inl (bL (peY np fr ce) (vp_updL pz np ce) pz))))] := by rw [fq_0, fq_1, fq_2]; exact hD
        exact k_zret (v := nI 0) hx hb hr hlocks rfl () (by rw [hY]; rfl) hP hD hK hS [0, 1, 2] (by decide) rfl d_R_penalty_38
      · refine lv_lload_n hx hb d_R_penalty_20 rfl (lv_at hl 2 rfl) ?_
        refine lv_ldc2 (v := 10000) hx hb hown (hts _ wd_232) d_R_penalty_21 ?_
        refine k_jgt (tgt := 37) hx hb d_R_penalty_24 d_R_penalty_25 (by decide) (fun c_24 => ?_) (fun c_24 => ?_)
        · refine lv_iconst (v := nI 0) hx hb d_R_penalty_37 (by decide) ?_
          have hY : peY np fr ce = false := by first | (unfold peY inB; rw [decide_eq_false (Int64.not_le.mpr c_2)]; rfl) | (unfold peY inB; rw [decide_eq_true c_2, decide_eq_false (Int64.not_le.mpr c_10)]; rfl) | exact pe_f3 c_2 c_10 c_16 | exact pe_f4 c_2 c_10 c_16 c_24 | exact pe_f5 c_2 c_10 c_16 c_24 c_34
          have fq_0 : bN (peY np fr ce) (np + 1) np = np := bN_f hY
          have fq_1 : bL (peY np fr ce) (vp_updL pf np fr) pf = pf := bL_f hY
          have fq_2 : bL (peY np fr ce) (vp_updL pz np ce) pz = pz := bL_f hY
          have hP : va_P (dC, dI) vwCl [(h, .inr (3, [.ref aK, .ref aF, .ref aS, .ref aZ, .int (nI n), .ref aL, .int (nI sc), .ref aH, .int (nI nc), .ref sA, .ref sF, .int (nI nr), .ref aP, .ref aC, .int (nI (bN (peY np fr ce) (np + 1) np)), .int (zI mt), .ref mL, .ref mA, .long mb, .int (nI mc), .ref tr])), (aP, .inl (cJ, 10, .inr (.inl (bL (peY np fr ce) (vp_updL pf np fr) pf)))), (aC, .inl (cJ, 10, .inr (.inl (bL (peY np fr ce) (vp_updL pz np ce) pz))))] H := by rw [fq_0, fq_1, fq_2]; exact hP
          have hD : va_D A [(h, .inr (3, [.ref aK, .ref aF, .ref aS, .ref aZ, .int (nI n), .ref aL, .int (nI sc), .ref aH, .int (nI nc), .ref sA, .ref sF, .int (nI nr), .ref aP, .ref aC, .int (nI (bN (peY np fr ce) (np + 1) np)), .int (zI mt), .ref mL, .ref mA, .long mb, .int (nI mc), .ref tr])), (aP, .inl (cJ, 10, .inr (.inl (bL (peY np fr ce) (vp_updL pf np fr) pf)))), (aC, .inl (cJ, 10, .inr (.inl (bL (peY np fr ce) (vp_updL pz np ce) pz))))] := by rw [fq_0, fq_1, fq_2]; exact hD
          exact k_zret (v := nI 0) hx hb hr hlocks rfl () (by rw [hY]; rfl) hP hD hK hS [0, 1, 2] (by decide) rfl d_R_penalty_38
        · refine lv_aload_n hx hb d_R_penalty_28 rfl (lv_at hl 0 rfl) ?_
          refine va_get (D := (dC, dI)) (ci := 3) (v := .int (nI np)) (C := R_R) (T := T_R) (N := 21) hx hb hts iT_R hown hK hP 0 rfl rfl 14 (by decide) (hts _ wd_288) (fun _ h9 => h9) rfl d_R_penalty_29 ?_
          refine lv_bipush (v := nI 10) hx hb d_R_penalty_32 (by decide) ?_
          refine k_nne (tgt := 39) hx hb d_R_penalty_34 (by decide) (by omega) (by omega) (fun c_34 => ?_) (fun c_34 => ?_)
          · refine lv_aload_n hx hb d_R_penalty_39 rfl (lv_at hl 0 rfl) ?_
            refine va_get (D := (dC, dI)) (ci := 3) (v := .ref aP) (C := R_R) (T := T_R) (N := 21) hx hb hts iT_R hown hK hP 0 rfl rfl 12 (by decide) (hts _ wd_217) (fun _ h9 => h9) rfl d_R_penalty_40 ?_
            refine lv_aload_n hx hb d_R_penalty_43 rfl (lv_at hl 0 rfl) ?_
            refine va_get (D := (dC, dI)) (ci := 3) (v := .int (nI np)) (C := R_R) (T := T_R) (N := 21) hx hb hts iT_R hown hK hP 0 rfl rfl 14 (by decide) (hts _ wd_288) (fun _ h9 => h9) rfl d_R_penalty_44 ?_
            refine lv_lload_n hx hb d_R_penalty_47 rfl (lv_at hl 1 rfl) ?_
            refine k_last (j := np) hx hb hK hP hD hS 1 0 rfl rfl (by omega) (by decide) d_R_penalty_48 (fun H locs hP hD hS => ?_)
            have hP : va_P (dC, dI) vwCl [(h, .inr (3, [.ref aK, .ref aF, .ref aS, .ref aZ, .int (nI n), .ref aL, .int (nI sc), .ref aH, .int (nI nc), .ref sA, .ref sF, .int (nI nr), .ref aP, .ref aC, .int (nI np), .int (zI mt), .ref mL, .ref mA, .long mb, .int (nI mc), .ref tr])), (aP, .inl (cJ, 10, .inr (.inl (vp_updL pf np fr)))), (aC, .inl (cJ, 10, .inr (.inl pz)))] H := hP
            have hD : va_D A [(h, .inr (3, [.ref aK, .ref aF, .ref aS, .ref aZ, .int (nI n), .ref aL, .int (nI sc), .ref aH, .int (nI nc), .ref sA, .ref sF, .int (nI nr), .ref aP, .ref aC, .int (nI np), .int (zI mt), .ref mL, .ref mA, .long mb, .int (nI mc), .ref tr])), (aP, .inl (cJ, 10, .inr (.inl (vp_updL pf np fr)))), (aC, .inl (cJ, 10, .inr (.inl pz)))] := hD
            refine lv_aload_n hx hb d_R_penalty_49 rfl (lv_at hl 0 rfl) ?_
            refine va_get (D := (dC, dI)) (ci := 3) (v := .ref aC) (C := R_R) (T := T_R) (N := 21) hx hb hts iT_R hown hK hP 0 rfl rfl 13 (by decide) (hts _ wd_218) (fun _ h9 => h9) rfl d_R_penalty_50 ?_
            refine lv_aload_n hx hb d_R_penalty_53 rfl (lv_at hl 0 rfl) ?_
            refine va_get (D := (dC, dI)) (ci := 3) (v := .int (nI np)) (C := R_R) (T := T_R) (N := 21) hx hb hts iT_R hown hK hP 0 rfl rfl 14 (by decide) (hts _ wd_288) (fun _ h9 => h9) rfl d_R_penalty_54 ?_
            refine lv_lload_n hx hb d_R_penalty_57 rfl (lv_at hl 2 rfl) ?_
            refine k_last (j := np) hx hb hK hP hD hS 2 0 rfl rfl (by omega) (by decide) d_R_penalty_58 (fun H locs hP hD hS => ?_)
            have hP : va_P (dC, dI) vwCl [(h, .inr (3, [.ref aK, .ref aF, .ref aS, .ref aZ, .int (nI n), .ref aL, .int (nI sc), .ref aH, .int (nI nc), .ref sA, .ref sF, .int (nI nr), .ref aP, .ref aC, .int (nI np), .int (zI mt), .ref mL, .ref mA, .long mb, .int (nI mc), .ref tr])), (aP, .inl (cJ, 10, .inr (.inl (vp_updL pf np fr)))), (aC, .inl (cJ, 10, .inr (.inl (vp_updL pz np ce))))] H := hP
            have hD : va_D A [(h, .inr (3, [.ref aK, .ref aF, .ref aS, .ref aZ, .int (nI n), .ref aL, .int (nI sc), .ref aH, .int (nI nc), .ref sA, .ref sF, .int (nI nr), .ref aP, .ref aC, .int (nI np), .int (zI mt), .ref mL, .ref mA, .long mb, .int (nI mc), .ref tr])), (aP, .inl (cJ, 10, .inr (.inl (vp_updL pf np fr)))), (aC, .inl (cJ, 10, .inr (.inl (vp_updL pz np ce))))] := hD
            refine lv_aload_n hx hb d_R_penalty_59 rfl (lv_at hl 0 rfl) ?_
            refine lv_dup hx hb d_R_penalty_60 rfl ?_
            refine va_get (D := (dC, dI)) (ci := 3) (v := .int (nI np)) (C := R_R) (T := T_R) (N := 21) hx hb hts iT_R hown hK hP 0 rfl rfl 14 (by decide) (hts _ wd_288) (fun _ h9 => h9) rfl d_R_penalty_61 ?_
            refine lv_iconst (v := nI 1) hx hb d_R_penalty_64 (by decide) ?_
            refine lv_iadd hx hb d_R_penalty_65 ?_
            refine k_toi (nI_add np 1) ?_
            refine va_put (D := (dC, dI)) (ci := 3) (v := .int (nI (np + 1))) (ty := .int) (C := R_R) (T := T_R) (N := 21) hx hb hts iT_R t_R t_R_ok n_R hown hK hP hD hS 0 rfl rfl 14 (by decide) (hts _ wd_288) (fun _ h9 => h9) rfl (by decide +kernel) rfl rfl (Nat.le_of_ble_eq_true rfl) d_R_penalty_66 (fun H locs hP hD hS => ?_)
            have hP : va_P (dC, dI) vwCl [(h, .inr (3, [.ref aK, .ref aF, .ref aS, .ref aZ, .int (nI n), .ref aL, .int (nI sc), .ref aH, .int (nI nc), .ref sA, .ref sF, .int (nI nr), .ref aP, .ref aC, .int (nI (np + 1)), .int (zI mt), .ref mL, .ref mA, .long mb, .int (nI mc), .ref tr])), (aP, .inl (cJ, 10, .inr (.inl (vp_updL pf np fr)))), (aC, .inl (cJ, 10, .inr (.inl (vp_updL pz np ce))))] H := hP
            have hD : va_D A [(h, .inr (3, [.ref aK, .ref aF, .ref aS, .ref aZ, .int (nI n), .ref aL, .int (nI sc), .ref aH, .int (nI nc), .ref sA, .ref sF, .int (nI nr), .ref aP, .ref aC, .int (nI (np + 1)), .int (zI mt), .ref mL, .ref mA, .long mb, .int (nI mc), .ref tr])), (aP, .inl (cJ, 10, .inr (.inl (vp_updL pf np fr)))), (aC, .inl (cJ, 10, .inr (.inl (vp_updL pz np ce))))] := hD
            refine lv_iconst (v := nI 1) hx hb d_R_penalty_69 (by decide) ?_
            have hY : peY np fr ce = true := by exact pe_t c_2 c_10 c_16 c_24 (by omega)
            have fq_0 : bN (peY np fr ce) (np + 1) np = np + 1 := bN_t hY
            have fq_1 : bL (peY np fr ce) (vp_updL pf np fr) pf = vp_updL pf np fr := bL_t hY
            have fq_2 : bL (peY np fr ce) (vp_updL pz np ce) pz = vp_updL pz np ce := bL_t hY
            have hP : va_P (dC, dI) vwCl [(h, .inr (3, [.ref aK, .ref aF, .ref aS, .ref aZ, .int (nI n), .ref aL, .int (nI sc), .ref aH, .int (nI nc), .ref sA, .ref sF, .int (nI nr), .ref aP, .ref aC, .int (nI (bN (peY np fr ce) (np + 1) np)), .int (zI mt), .ref mL, .ref mA, .long mb, .int (nI mc), .ref tr])), (aP, .inl (cJ, 10, .inr (.inl (bL (peY np fr ce) (vp_updL pf np fr) pf)))), (aC, .inl (cJ, 10, .inr (.inl (bL (peY np fr ce) (vp_updL pz np ce) pz))))] H := by rw [fq_0, fq_1, fq_2]; exact hP
            have hD : va_D A [(h, .inr (3, [.ref aK, .ref aF, .ref aS, .ref aZ, .int (nI n), .ref aL, .int (nI sc), .ref aH, .int (nI nc), .ref sA, .ref sF, .int (nI nr), .ref aP, .ref aC, .int (nI (bN (peY np fr ce) (np + 1) np)), .int (zI mt), .ref mL, .ref mA, .long mb, .int (nI mc), .ref tr])), (aP, .inl (cJ, 10, .inr (.inl (bL (peY np fr ce) (vp_updL pf np fr) pf)))), (aC, .inl (cJ, 10, .inr (.inl (bL (peY np fr ce) (vp_updL pz np ce) pz))))] := by rw [fq_0, fq_1, fq_2]; exact hD
            exact k_zret (v := nI 1) hx hb hr hlocks rfl () (by rw [hY]; rfl) hP hD hK hS [0, 1, 2] (by decide) rfl d_R_penalty_70
          · refine lv_iconst (v := nI 0) hx hb d_R_penalty_37 (by decide) ?_
            have hY : peY np fr ce = false := by first | (unfold peY inB; rw [decide_eq_false (Int64.not_le.mpr c_2)]; rfl) | (unfold peY inB; rw [decide_eq_true c_2, decide_eq_false (Int64.not_le.mpr c_10)]; rfl) | exact pe_f3 c_2 c_10 c_16 | exact pe_f4 c_2 c_10 c_16 c_24 | exact pe_f5 c_2 c_10 c_16 c_24 c_34
            have fq_0 : bN (peY np fr ce) (np + 1) np = np := bN_f hY
            have fq_1 : bL (peY np fr ce) (vp_updL pf np fr) pf = pf := bL_f hY
            have fq_2 : bL (peY np fr ce) (vp_updL pz np ce) pz = pz := bL_f hY
            have hP : va_P (dC, dI) vwCl [(h, .inr (3, [.ref aK, .ref aF, .ref aS, .ref aZ, .int (nI n), .ref aL, .int (nI sc), .ref aH, .int (nI nc), .ref sA, .ref sF, .int (nI nr), .ref aP, .ref aC, .int (nI (bN (peY np fr ce) (np + 1) np)), .int (zI mt), .ref mL, .ref mA, .long mb, .int (nI mc), .ref tr])), (aP, .inl (cJ, 10, .inr (.inl (bL (peY np fr ce) (vp_updL pf np fr) pf)))), (aC, .inl (cJ, 10, .inr (.inl (bL (peY np fr ce) (vp_updL pz np ce) pz))))] H := by rw [fq_0, fq_1, fq_2]; exact hP
            have hD : va_D A [(h, .inr (3, [.ref aK, .ref aF, .ref aS, .ref aZ, .int (nI n), .ref aL, .int (nI sc), .ref aH, .int (nI nc), .ref sA, .ref sF, .int (nI nr), .ref aP, .ref aC, .int (nI (bN (peY np fr ce) (np + 1) np)), .int (zI mt), .ref mL, .ref mA, .long mb, .int (nI mc), .ref tr])), (aP, .inl (cJ, 10, .inr (.inl (bL (peY np fr ce) (vp_updL pf np fr) pf)))), (aC, .inl (cJ, 10, .inr (.inl (bL (peY np fr ce) (vp_updL pz np ce) pz))))] := by rw [fq_0, fq_1, fq_2]; exact hD
            exact k_zret (v := nI 0) hx hb hr hlocks rfl () (by rw [hY]; rfl) hP hD hK hS [0, 1, 2] (by decide) rfl d_R_penalty_38
/-- R_pay -/
abbrev q_R_pay (dC : Nat → ClassId) (dI : Nat → Nat → Nat) (cJ cI cZ : ClassId) (h : Nat) (aK : Nat) (aF : Nat) (aS : Nat) (aZ : Nat) (aL : Nat) (aH : Nat) (sA : Nat) (sF : Nat) (aP : Nat) (aC : Nat) (mL : Nat) (mA : Nat) (tr : Nat) (n : Nat) (sc : Nat) (nc : Nat) (nr : Nat) (np : Nat) (mt : Bool) (mb : Int64) (mc : Nat) (kg : Nat → Int64) (ft : Nat → Int64) (so : Nat → Int64) (pf : Nat → Int64) (pz : Nat → Int64) (x : Int32) (A : Nat → Prop) : Array Value → State → Outcome → State → Prop := va_Ql (fun (r : Int64) (_ : Unit) => r = paA n kg ft so pf pz np x) (kB (dC, dI) vwCl [(cJ, .long), (cI, .int), (cZ, .boolean)] A (fun (_ : Unit) => [(h, .inr (3, [.ref aK, .ref aF, .ref aS, .ref aZ, .int (nI n), .ref aL, .int (nI sc), .ref aH, .int (nI nc), .ref sA, .ref sF, .int (nI nr), .ref aP, .ref aC, .int (nI np), .int (zI mt), .ref mL, .ref mA, .long mb, .int (nI mc), .ref tr])), (aK, .inl (cJ, 60, .inr (.inl kg))), (aF, .inl (cJ, 60, .inr (.inl ft))), (aS, .inl (cJ, 60, .inr (.inl so))), (aP, .inl (cJ, 10, .inr (.inl pf))), (aC, .inl (cJ, 10, .inr (.inl pz)))])) A
set_option maxHeartbeats 4000000 in
set_option maxRecDepth 100000 in
theorem k_R_pay (l : Launch) (dC : Nat → ClassId) (dI : Nat → Nat → Nat) (cJ cI cZ : ClassId) (sz : Nat) (h : Nat) (aK : Nat) (aF : Nat) (aS : Nat) (aZ : Nat) (aL : Nat) (aH : Nat) (sA : Nat) (sF : Nat) (aP : Nat) (aC : Nat) (mL : Nat) (mA : Nat) (tr : Nat) (n : Nat) (sc : Nat) (nc : Nat) (nr : Nat) (np : Nat) (mt : Bool) (mb : Int64) (mc : Nat) (kg : Nat → Int64) (ft : Nat → Int64) (so : Nat → Int64) (pf : Nat → Int64) (pz : Nat → Int64) (x : Int32) (hn : n ≤ 60) (hnp : np ≤ 10) (hp0 : ∀ j, j < n → 0 ≤ (pa0 (kg j) (ft j) (so j)).toInt) : Met l y_R_pay w_R_pay { frames := 1, cells := 0, slots := 0, locals := 21 } (kPc (dC, dI) vwCl [(cJ, .long), (cI, .int), (cZ, .boolean)] [(h, .inr (3, [.ref aK, .ref aF, .ref aS, .ref aZ, .int (nI n), .ref aL, .int (nI sc), .ref aH, .int (nI nc), .ref sA, .ref sF, .int (nI nr), .ref aP, .ref aC, .int (nI np), .int (zI mt), .ref mL, .ref mA, .long mb, .int (nI mc), .ref tr])), (aK, .inl (cJ, 60, .inr (.inl kg))), (aF, .inl (cJ, 60, .inr (.inl ft))), (aS, .inl (cJ, 60, .inr (.inl so))), (aP, .inl (cJ, 10, .inr (.inl pf))), (aC, .inl (cJ, 10, .inr (.inl pz)))] sz [.ref h, .int x]) (q_R_pay dC dI cJ cI cZ h aK aF aS aZ aL aH sA sF aP aC mL mA tr n sc nc nr np mt mb mc kg ft so pf pz x (va_A [(h, .inr (3, [.ref aK, .ref aF, .ref aS, .ref aZ, .int (nI n), .ref aL, .int (nI sc), .ref aH, .int (nI nc), .ref sA, .ref sF, .int (nI nr), .ref aP, .ref aC, .int (nI np), .int (zI mt), .ref mL, .ref mA, .long mb, .int (nI mc), .ref tr])), (aK, .inl (cJ, 60, .inr (.inl kg))), (aF, .inl (cJ, 60, .inr (.inl ft))), (aS, .inl (cJ, 60, .inr (.inl so))), (aP, .inl (cJ, 10, .inr (.inl pf))), (aC, .inl (cJ, 10, .inr (.inl pz)))] sz)) 0 0 (va_A [(h, .inr (3, [.ref aK, .ref aF, .ref aS, .ref aZ, .int (nI n), .ref aL, .int (nI sc), .ref aH, .int (nI nc), .ref sA, .ref sF, .int (nI nr), .ref aP, .ref aC, .int (nI np), .int (zI mt), .ref mL, .ref mA, .long mb, .int (nI mc), .ref tr])), (aK, .inl (cJ, 60, .inr (.inl kg))), (aF, .inl (cJ, 60, .inr (.inl ft))), (aS, .inl (cJ, 60, .inr (.inl so))), (aP, .inl (cJ, 10, .inr (.inl pf))), (aC, .inl (cJ, 10, .inr (.inl pz)))] sz) := by
  refine k_met (q_R_pay dC dI cJ cI cZ h aK aF aS aZ aL aH sA sF aP aC mL mA tr n sc nc nr np mt mb mc kg ft so pf pz x) (by decide +kernel) rfl (Nat.le_of_ble_eq_true rfl) ?_
  intro p e s m below meth c A hx hb hr hml hown hts hlocks hin hA H hP hK hD hS ls hl
  have hl : lv_has ls 7 [(0, .ref h), (1, .int x)] := hl
  have hown : s.vm.findClass R_R = some m.cls := hown
  have hts : ∀ wW ∈ kT, wW.before [.ref h, .int x].toArray s = true := fun wW hW => hts wW (List.mem_cons_of_mem _ hW)
  refine lv_aload_n hx hb d_R_pay_0 rfl (lv_at hl 0 rfl) ?_
  refine lv_iload_n hx hb d_R_pay_1 rfl (lv_at hl 1 rfl) ?_
  refine k_calli (wr := [(aK, .inl (cJ, 60, .inr (.inl kg))), (aF, .inl (cJ, 60, .inr (.inl ft))), (aS, .inl (cJ, 60, .inr (.inl so))), (aP, .inl (cJ, 10, .inr (.inl pf))), (aC, .inl (cJ, 10, .inr (.inl pz)))]) (va_runV (As := [.int x]) (rest := []) ⟨hx, hb, hml, hown, hts⟩ (k_R_isLot l dC dI cJ cI cZ _ h aK aF aS aZ aL aH sA sF aP aC mL mA tr n sc nc nr np mt mb mc x) (k_cw (y := y_R_isLot) (own := R_R) hts wd_239 wd_224 wd_238 wd_236 wd_237 hd_R_isLot ⟨Nat.le_of_ble_eq_true rfl, Nat.le_of_ble_eq_true rfl⟩) (k_preV (ci := 3) (q0 := 0) hP hD hK [0] rfl (by decide) rfl rfl) rfl rfl hl.1 rfl (lv_room (Nat.le_of_ble_eq_true rfl)) d_R_pay_2 ⟨Nat.le_of_ble_eq_true rfl, Nat.le_of_ble_eq_true rfl⟩) hP hD hS hA [0] [1, 2, 3, 4, 5] rfl rfl (by decide) (by decide) (fun r_2 uu H locs hpo hP hD hS => ?_)
  have hpo : r_2 = zI (lotB n x) := hpo
  subst hpo
  have hP : va_P (dC, dI) vwCl [(aK, .inl (cJ, 60, .inr (.inl kg))), (aF, .inl (cJ, 60, .inr (.inl ft))), (aS, .inl (cJ, 60, .inr (.inl so))), (aP, .inl (cJ, 10, .inr (.inl pf))), (aC, .inl (cJ, 10, .inr (.inl pz))), (h, .inr (3, [.ref aK, .ref aF, .ref aS, .ref aZ, .int (nI n), .ref aL, .int (nI sc), .ref aH, .int (nI nc), .ref sA, .ref sF, .int (nI nr), .ref aP, .ref aC, .int (nI np), .int (zI mt), .ref mL, .ref mA, .long mb, .int (nI mc), .ref tr]))] H := hP
  have hD : va_D A [(aK, .inl (cJ, 60, .inr (.inl kg))), (aF, .inl (cJ, 60, .inr (.inl ft))), (aS, .inl (cJ, 60, .inr (.inl so))), (aP, .inl (cJ, 10, .inr (.inl pf))), (aC, .inl (cJ, 10, .inr (.inl pz))), (h, .inr (3, [.ref aK, .ref aF, .ref aS, .ref aZ, .int (nI n), .ref aL, .int (nI sc), .ref aH, .int (nI nc), .ref sA, .ref sF, .int (nI nr), .ref aP, .ref aC, .int (nI np), .int (zI mt), .ref mL, .ref mA, .long mb, .int (nI mc), .ref tr]))] := hD
  refine k_zne (tgt := 12) hx hb d_R_pay_5 (by decide) (fun c_5 => ?_) (fun c_5 => ?_)
  · obtain ⟨j, hj, rfl⟩ := lotB_nat (by omega) c_5
    have hcl : (nI j).toNatClampNeg = j := nI_clamp (by omega)
    refine lv_aload_n hx hb d_R_pay_12 rfl (lv_at hl 0 rfl) ?_
    refine va_get (D := (dC, dI)) (ci := 3) (v := .ref aK) (C := R_R) (T := T_R) (N := 21) hx hb hts iT_R hown hK hP 5 rfl rfl 0 (by decide) (hts _ wd_209) (fun _ h9 => h9) rfl d_R_pay_13 ?_
    refine lv_iload_n hx hb d_R_pay_16 rfl (lv_at hl 1 rfl) ?_
    refine k_lald (j := j) hx hb hK hP 0 0 rfl rfl (by omega) (by decide) d_R_pay_17 ?_
    refine lv_ldc2 (v := 4) hx hb hown (hts _ wd_290) d_R_pay_18 ?_
    refine lv_aload_n hx hb d_R_pay_21 rfl (lv_at hl 0 rfl) ?_
    refine va_get (D := (dC, dI)) (ci := 3) (v := .ref aF) (C := R_R) (T := T_R) (N := 21) hx hb hts iT_R hown hK hP 5 rfl rfl 1 (by decide) (hts _ wd_210) (fun _ h9 => h9) rfl d_R_pay_22 ?_
    refine lv_iload_n hx hb d_R_pay_25 rfl (lv_at hl 1 rfl) ?_
    refine k_lald (j := j) hx hb hK hP 1 0 rfl rfl (by omega) (by decide) d_R_pay_26 ?_
    refine lv_lmul hx hb d_R_pay_27 ?_
    refine lv_ldc2 (v := 3) hx hb hown (hts _ wd_291) d_R_pay_28 ?_
    refine lv_aload_n hx hb d_R_pay_31 rfl (lv_at hl 0 rfl) ?_
    refine va_get (D := (dC, dI)) (ci := 3) (v := .ref aS) (C := R_R) (T := T_R) (N := 21) hx hb hts iT_R hown hK hP 5 rfl rfl 2 (by decide) (hts _ wd_211) (fun _ h9 => h9) rfl d_R_pay_32 ?_
    refine lv_iload_n hx hb d_R_pay_35 rfl (lv_at hl 1 rfl) ?_
    refine k_lald (j := j) hx hb hK hP 2 0 rfl rfl (by omega) (by decide) d_R_pay_36 ?_
    refine lv_lmul hx hb d_R_pay_37 ?_
    refine lv_ladd hx hb d_R_pay_38 ?_
    refine lv_lmul hx hb d_R_pay_39 ?_
    refine lv_ldc2 (v := 1000) hx hb hown (hts _ wd_292) d_R_pay_40 ?_
    refine lv_ldiv hx hb d_R_pay_43 (by decide) ?_
    refine lv_lstore_n (lv' := [(2, .long (((kg j) * ((4 * (ft j)) + (3 * (so j)))) / 1000)), (0, .ref h), (1, .int (nI j))]) hx hb d_R_pay_44 rfl hl (by decide) rfl (fun ls hl => ?_)
    refine lv_iconst (v := nI 0) hx hb d_R_pay_45 (by decide) ?_
    refine lv_istore (lv' := [(4, .int (nI 0)), (2, .long (((kg j) * ((4 * (ft j)) + (3 * (so j)))) / 1000)), (0, .ref h), (1, .int (nI j))]) hx hb d_R_pay_46 hl (by decide) rfl (fun ls hl => ?_)
    have loop_48 : ∀ (fu_48 : Nat) (i : Nat) (v : Int64) (hi : i ≤ np) (hv0 : 0 ≤ v) (hv : payL pf pz (kg j) (ft j) (np - i) i v = payL pf pz (kg j) (ft j) np 0 (pa0 (kg j) (ft j) (so j))) (hfu_48 : np + 1 ≤ i + fu_48) (H : Heap) (locs : List Loc) (ls : Array Slot), va_P (dC, dI) vwCl [(h, .inr (3, [.ref aK, .ref aF, .ref aS, .ref aZ, .int (nI n), .ref aL, .int (nI sc), .ref aH, .int (nI nc), .ref sA, .ref sF, .int (nI nr), .ref aP, .ref aC, .int (nI np), .int (zI mt), .ref mL, .ref mA, .long mb, .int (nI mc), .ref tr])), (aK, .inl (cJ, 60, .inr (.inl kg))), (aF, .inl (cJ, 60, .inr (.inl ft))), (aS, .inl (cJ, 60, .inr (.inl so))), (aP, .inl (cJ, 10, .inr (.inl pf))), (aC, .inl (cJ, 10, .inr (.inl pz)))] H → va_D A [(h, .inr (3, [.ref aK, .ref aF, .ref aS, .ref aZ, .int (nI n), .ref aL, .int (nI sc), .ref aH, .int (nI nc), .ref sA, .ref sF, .int (nI nr), .ref aP, .ref aC, .int (nI np), .int (zI mt), .ref mL, .ref mA, .long mb, .int (nI mc), .ref tr])), (aK, .inl (cJ, 60, .inr (.inl kg))), (aF, .inl (cJ, 60, .inr (.inl ft))), (aS, .inl (cJ, 60, .inr (.inl so))), (aP, .inl (cJ, 10, .inr (.inl pf))), (aC, .inl (cJ, 10, .inr (.inl pz)))] → va_S A s.heap H locs → lv_has ls 7 [(0, .ref h), (1, .int (nI j)), (2, .long v), (4, .int (nI i))] → W p l e { frames := 1, cells := 0, slots := 0, locals := 21 } s m [.ref h, .int (nI j)].toArray below meth c H locs 0 0 (MQ below (q_R_pay dC dI cJ cI cZ h aK aF aS aZ aL aH sA sF aP aC mL mA tr n sc nc nr np mt mb mc kg ft so pf pz (nI j) A) [.ref h, .int (nI j)].toArray s 0 0 A) (F0 m 48 ls []) := by
      intro fu_48
      induction fu_48 with
      | zero =>
        intro i v hi hv0 hv hfu_48 H locs ls hP hD hS hl
        exact absurd hfu_48 (by omega)
      | succ fu_48 ih_48 =>
        intro i v hi hv0 hv hfu_48 H locs ls hP hD hS hl
        refine lv_iload hx hb d_R_pay_48 (lv_at hl 3 rfl) ?_
        refine lv_aload_n hx hb d_R_pay_50 rfl (lv_at hl 0 rfl) ?_
        refine va_get (D := (dC, dI)) (ci := 3) (v := .int (nI np)) (C := R_R) (T := T_R) (N := 21) hx hb hts iT_R hown hK hP 0 rfl rfl 14 (by decide) (hts _ wd_288) (fun _ h9 => h9) rfl d_R_pay_51 ?_
        refine k_nge (tgt := 125) hx hb d_R_pay_54 (by decide) (by omega) (by omega) (fun c_54 => ?_) (fun c_54 => ?_)
        · refine lv_lload_n hx hb d_R_pay_125 rfl (lv_at hl 2 rfl) ?_
          exact k_lret (v := v) hx hb hr hlocks () (by unfold paA; rw [c_5, hcl, if_pos rfl, ← hv, payL_end c_54]) hP hD hK hS [0, 1, 2, 3, 4, 5] (by decide) rfl d_R_pay_126
        · refine lv_aload_n hx hb d_R_pay_57 rfl (lv_at hl 0 rfl) ?_
          refine va_get (D := (dC, dI)) (ci := 3) (v := .ref aC) (C := R_R) (T := T_R) (N := 21) hx hb hts iT_R hown hK hP 0 rfl rfl 13 (by decide) (hts _ wd_218) (fun _ h9 => h9) rfl d_R_pay_58 ?_
          refine lv_iload hx hb d_R_pay_61 (lv_at hl 3 rfl) ?_
          refine k_lald (j := i) hx hb hK hP 5 0 rfl rfl (by omega) (by decide) d_R_pay_63 ?_
          refine lv_aload_n hx hb d_R_pay_64 rfl (lv_at hl 0 rfl) ?_
          refine va_get (D := (dC, dI)) (ci := 3) (v := .ref aK) (C := R_R) (T := T_R) (N := 21) hx hb hts iT_R hown hK hP 0 rfl rfl 0 (by decide) (hts _ wd_209) (fun _ h9 => h9) rfl d_R_pay_65 ?_
          refine lv_iload_n hx hb d_R_pay_68 rfl (lv_at hl 1 rfl) ?_
          refine k_lald (j := j) hx hb hK hP 1 0 rfl rfl (by omega) (by decide) d_R_pay_69 ?_
          refine lv_lmul hx hb d_R_pay_70 ?_
          refine lv_ldc2 (v := 99) hx hb hown (hts _ wd_293) d_R_pay_71 ?_
          refine lv_ladd hx hb d_R_pay_74 ?_
          refine lv_ldc2 (v := 100) hx hb hown (hts _ wd_294) d_R_pay_75 ?_
          refine lv_ldiv hx hb d_R_pay_78 (by decide) ?_
          refine lv_lstore (lv' := [(5, .long ((((pz i) * (kg j)) + 99) / 100)), (0, .ref h), (1, .int (nI j)), (2, .long v), (4, .int (nI i))]) hx hb d_R_pay_79 hl (by decide) rfl (fun ls hl => ?_)
          refine lv_lload_n hx hb d_R_pay_81 rfl (lv_at hl 3 rfl) ?_
          refine lv_aload_n hx hb d_R_pay_82 rfl (lv_at hl 1 rfl) ?_
          refine va_get (D := (dC, dI)) (ci := 3) (v := .ref aF) (C := R_R) (T := T_R) (N := 21) hx hb hts iT_R hown hK hP 0 rfl rfl 1 (by decide) (hts _ wd_210) (fun _ h9 => h9) rfl d_R_pay_83 ?_
          refine lv_iload_n hx hb d_R_pay_86 rfl (lv_at hl 2 rfl) ?_
          refine k_lald (j := j) hx hb hK hP 2 0 rfl rfl (by omega) (by decide) d_R_pay_87 ?_
          refine lv_aload_n hx hb d_R_pay_88 rfl (lv_at hl 1 rfl) ?_
          refine va_get (D := (dC, dI)) (ci := 3) (v := .ref aP) (C := R_R) (T := T_R) (N := 21) hx hb hts iT_R hown hK hP 0 rfl rfl 12 (by decide) (hts _ wd_217) (fun _ h9 => h9) rfl d_R_pay_89 ?_
          refine lv_iload hx hb d_R_pay_92 (lv_at hl 4 rfl) ?_
          refine k_lald (j := i) hx hb hK hP 4 0 rfl rfl (by omega) (by decide) d_R_pay_94 ?_
          refine k_jge (tgt := 104) hx hb d_R_pay_95 d_R_pay_96 (by decide) (fun c_95 => ?_) (fun c_95 => ?_)
          · refine lv_lconst (v := 0) hx hb d_R_pay_104 (by decide) ?_
            refine lv_lsub hx hb d_R_pay_105 ?_
            refine lv_lstore_n (lv' := [(2, .long (v - 0)), (5, .long ((((pz i) * (kg j)) + 99) / 100)), (0, .ref h), (1, .int (nI j)), (4, .int (nI i))]) hx hb d_R_pay_106 rfl hl (by decide) rfl (fun ls hl => ?_)
            refine lv_lload_n hx hb d_R_pay_107 rfl (lv_at hl 0 rfl) ?_
            refine lv_lconst (v := 0) hx hb d_R_pay_108 (by decide) ?_
            refine k_jge (tgt := 117) hx hb d_R_pay_109 d_R_pay_110 (by decide) (fun c_109 => ?_) (fun c_109 => ?_)
            · refine lv_lload_n hx hb d_R_pay_117 rfl (lv_at hl 0 rfl) ?_
              refine lv_lstore_n (lv' := [(2, .long (v - 0)), (5, .long ((((pz i) * (kg j)) + 99) / 100)), (0, .ref h), (1, .int (nI j)), (4, .int (nI i))]) hx hb d_R_pay_118 rfl hl (by decide) rfl (fun ls hl => ?_)
              refine lv_iinc (v := nI (i + 1)) (lv' := [(4, .int (nI (i + 1))), (2, .long (v - 0)), (5, .long ((((pz i) * (kg j)) + 99) / 100)), (0, .ref h), (1, .int (nI j))]) hx hb d_R_pay_119 hl (k := 4) rfl (nI_add i 1) (by decide) rfl (fun ls hl => ?_)
              refine lv_goto (tgt := 48) hx hb d_R_pay_122 (by decide) ?_
              exact ih_48 (i + 1) (v - 0) (by omega) c_109 (by rw [← hv, payL_go c_54, pay4 c_95 c_109]) (by omega) _ _ _ hP hD hS (lv_sub hl [3, 4, 1, 0] rfl)
            · refine lv_lconst (v := 0) hx hb d_R_pay_113 (by decide) ?_
              refine lv_goto (tgt := 118) hx hb d_R_pay_114 (by decide) ?_
              refine lv_lstore_n (lv' := [(2, .long 0), (5, .long ((((pz i) * (kg j)) + 99) / 100)), (0, .ref h), (1, .int (nI j)), (4, .int (nI i))]) hx hb d_R_pay_118 rfl hl (by decide) rfl (fun ls hl => ?_)
              refine lv_iinc (v := nI (i + 1)) (lv' := [(4, .int (nI (i + 1))), (2, .long 0), (5, .long ((((pz i) * (kg j)) + 99) / 100)), (0, .ref h), (1, .int (nI j))]) hx hb d_R_pay_119 hl (k := 4) rfl (nI_add i 1) (by decide) rfl (fun ls hl => ?_)
              refine lv_goto (tgt := 48) hx hb d_R_pay_122 (by decide) ?_
              exact ih_48 (i + 1) 0 (by omega) (Int64.le_refl 0) (by rw [← hv, payL_go c_54, pay3 hv0 c_95 c_109]) (by omega) _ _ _ hP hD hS (lv_sub hl [3, 4, 1, 0] rfl)
          · refine lv_lload hx hb d_R_pay_99 (lv_at hl 0 rfl) ?_
            refine lv_goto (tgt := 105) hx hb d_R_pay_101 (by decide) ?_
            refine lv_lsub hx hb d_R_pay_105 ?_
            refine lv_lstore_n (lv' := [(2, .long (v - ((((pz i) * (kg j)) + 99) / 100))), (5, .long ((((pz i) * (kg j)) + 99) / 100)), (0, .ref h), (1, .int (nI j)), (4, .int (nI i))]) hx hb d_R_pay_106 rfl hl (by decide) rfl (fun ls hl => ?_)
            refine lv_lload_n hx hb d_R_pay_107 rfl (lv_at hl 0 rfl) ?_
            refine lv_lconst (v := 0) hx hb d_R_pay_108 (by decide) ?_
            refine k_jge (tgt := 117) hx hb d_R_pay_109 d_R_pay_110 (by decide) (fun c_109 => ?_) (fun c_109 => ?_)
            · refine lv_lload_n hx hb d_R_pay_117 rfl (lv_at hl 0 rfl) ?_
              refine lv_lstore_n (lv' := [(2, .long (v - ((((pz i) * (kg j)) + 99) / 100))), (5, .long ((((pz i) * (kg j)) + 99) / 100)), (0, .ref h), (1, .int (nI j)), (4, .int (nI i))]) hx hb d_R_pay_118 rfl hl (by decide) rfl (fun ls hl => ?_)
              refine lv_iinc (v := nI (i + 1)) (lv' := [(4, .int (nI (i + 1))), (2, .long (v - ((((pz i) * (kg j)) + 99) / 100))), (5, .long ((((pz i) * (kg j)) + 99) / 100)), (0, .ref h), (1, .int (nI j))]) hx hb d_R_pay_119 hl (k := 4) rfl (nI_add i 1) (by decide) rfl (fun ls hl => ?_)
              refine lv_goto (tgt := 48) hx hb d_R_pay_122 (by decide) ?_
              exact ih_48 (i + 1) (v - ((((pz i) * (kg j)) + 99) / 100)) (by omega) c_109 (by rw [← hv, payL_go c_54, pay2 c_95 c_109]) (by omega) _ _ _ hP hD hS (lv_sub hl [3, 4, 1, 0] rfl)
            · refine lv_lconst (v := 0) hx hb d_R_pay_113 (by decide) ?_
              refine lv_goto (tgt := 118) hx hb d_R_pay_114 (by decide) ?_
              refine lv_lstore_n (lv' := [(2, .long 0), (5, .long ((((pz i) * (kg j)) + 99) / 100)), (0, .ref h), (1, .int (nI j)), (4, .int (nI i))]) hx hb d_R_pay_118 rfl hl (by decide) rfl (fun ls hl => ?_)
              refine lv_iinc (v := nI (i + 1)) (lv' := [(4, .int (nI (i + 1))), (2, .long 0), (5, .long ((((pz i) * (kg j)) + 99) / 100)), (0, .ref h), (1, .int (nI j))]) hx hb d_R_pay_119 hl (k := 4) rfl (nI_add i 1) (by decide) rfl (fun ls hl => ?_)
              refine lv_goto (tgt := 48) hx hb d_R_pay_122 (by decide) ?_
              exact ih_48 (i + 1) 0 (by omega) (Int64.le_refl 0) (by rw [← hv, payL_go c_54, pay1 c_95 c_109]) (by omega) _ _ _ hP hD hS (lv_sub hl [3, 4, 1, 0] rfl)
    exact loop_48 (np + 1) 0 (((kg j) * ((4 * (ft j)) + (3 * (so j)))) / 1000) (by omega) (le0_of (hp0 j hj)) rfl (by omega) _ _ _ (hP.sub [5, 0, 1, 2, 3, 4] rfl) (hD.sub [5, 0, 1, 2, 3, 4] (by decide) rfl) hS (lv_sub hl [2, 3, 1, 0] rfl)
  · refine lv_ldc2 (v := (-1)) hx hb hown (hts _ wd_233) d_R_pay_8 ?_
    exact k_lret (v := (-1)) hx hb hr hlocks () (by unfold paA; rw [c_5]; rfl) hP hD hK hS [5, 0, 1, 2, 3, 4] (by decide) rfl d_R_pay_11
