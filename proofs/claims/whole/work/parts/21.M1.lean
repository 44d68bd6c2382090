/-- nothing is met, no lots -/
abbrev q_M_forget (dC : Nat → ClassId) (dI : Nat → Nat → Nat) (cJ cI cZ : ClassId) (h : Nat) (aL : Nat) (aF : Nat) (aS : Nat) (aT : Nat) (aB : Nat) (ml : Nat → Int32) (n : Nat) (mf : Nat → Int64) (ms : Nat → Int64) (u : MixS) (A : Nat → Prop) : Array Value → State → Outcome → State → Prop := va_Qv (fun (_ : Unit) => True) (kB (dC, dI) vwCl [(cJ, .long), (cI, .int), (cZ, .boolean)] A (fun (_ : Unit) => [(h, .inr (1, [.ref aL, .int (nI 0), .ref aF, .ref aS, .ref aT, .long ((fgF u).2.1), .ref aB, .long ((fgF u).2.2.2.1), .int (zI ((fgF u).2.2.2.2))])), (aL, .inl (cI, 4, .inl ml)), (aF, .inl (cJ, 5, .inr (.inl mf))), (aS, .inl (cJ, 5, .inr (.inl ms))), (aT, .inl (cJ, 4, .inr (.inl ((fgF u).1)))), (aB, .inl (cJ, 4, .inr (.inl ((fgF u).2.2.1))))])) A
set_option maxHeartbeats 4000000 in
set_option maxRecDepth 100000 in
theorem k_M_forget (l : Launch) (dC : Nat → ClassId) (dI : Nat → Nat → Nat) (cJ cI cZ : ClassId) (sz : Nat) (h : Nat) (aL : Nat) (aF : Nat) (aS : Nat) (aT : Nat) (aB : Nat) (ml : Nat → Int32) (n : Nat) (mf : Nat → Int64) (ms : Nat → Int64) (u : MixS)  : Met l y_M_forget w_M_forget { frames := 0, cells := 0, slots := 0, locals := 0 } (kPc (dC, dI) vwCl [(cJ, .long), (cI, .int), (cZ, .boolean)] [(h, .inr (1, [.ref aL, .int (nI n), .ref aF, .ref aS, .ref aT, .long u.2.1, .ref aB, .long u.2.2.2.1, .int (zI u.2.2.2.2)])), (aL, .inl (cI, 4, .inl ml)), (aF, .inl (cJ, 5, .inr (.inl mf))), (aS, .inl (cJ, 5, .inr (.inl ms))), (aT, .inl (cJ, 4, .inr (.inl u.1))), (aB, .inl (cJ, 4, .inr (.inl u.2.2.1)))] sz [.ref h]) (q_M_forget dC dI cJ cI cZ h aL aF aS aT aB ml n mf ms u (va_A [(h, .inr (1, [.ref aL, .int (nI n), .ref aF, .ref aS, .ref aT, .long u.2.1, .ref aB, .long u.2.2.2.1, .int (zI u.2.2.2.2)])), (aL, .inl (cI, 4, .inl ml)), (aF, .inl (cJ, 5, .inr (.inl mf))), (aS, .inl (cJ, 5, .inr (.inl ms))), (aT, .inl (cJ, 4, .inr (.inl u.1))), (aB, .inl (cJ, 4, .inr (.inl u.2.2.1)))] sz)) 0 0 (va_A [(h, .inr (1, [.ref aL, .int (nI n), .ref aF, .ref aS, .ref aT, .long u.2.1, .ref aB, .long u.2.2.2.1, .int (zI u.2.2.2.2)])), (aL, .inl (cI, 4, .inl ml)), (aF, .inl (cJ, 5, .inr (.inl mf))), (aS, .inl (cJ, 5, .inr (.inl ms))), (aT, .inl (cJ, 4, .inr (.inl u.1))), (aB, .inl (cJ, 4, .inr (.inl u.2.2.1)))] sz) := by
  refine k_met (q_M_forget dC dI cJ cI cZ h aL aF aS aT aB ml n mf ms u) (by decide +kernel) rfl (Nat.le_of_ble_eq_true rfl) ?_
  intro p e s m below meth c A hx hb hr hml hown hts hlocks hin hA H hP hK hD hS ls hl
  have hl : lv_has ls 1 [(0, .ref h)] := hl
  have hown : s.vm.findClass R_M = some m.cls := hown
  have hts : ∀ wW ∈ kT, wW.before [.ref h].toArray s = true := fun wW hW => hts wW (List.mem_cons_of_mem _ hW)
  refine lv_aload_n hx hb d_M_forget_0 rfl (lv_at hl 0 rfl) ?_
  refine lv_iconst (v := nI 0) hx hb d_M_forget_1 (by decide) ?_
  refine va_put (D := (dC, dI)) (ci := 1) (v := .int (nI 0)) (ty := .int) (C := R_M) (T := T_M) (N := 9) hx hb hts iT_M t_M t_M_ok n_M hown hK hP hD hS 0 rfl rfl 1 (by decide) (hts _ wd_37) (fun _ h9 => h9) rfl (by decide +kernel) rfl rfl (Nat.le_of_ble_eq_true rfl) d_M_forget_2 (fun H locs hP hD hS => ?_)
  have hP : va_P (dC, dI) vwCl [(h, .inr (1, [.ref aL, .int (nI 0), .ref aF, .ref aS, .ref aT, .long u.2.1, .ref aB, .long u.2.2.2.1, .int (zI u.2.2.2.2)])), (aL, .inl (cI, 4, .inl ml)), (aF, .inl (cJ, 5, .inr (.inl mf))), (aS, .inl (cJ, 5, .inr (.inl ms))), (aT, .inl (cJ, 4, .inr (.inl u.1))), (aB, .inl (cJ, 4, .inr (.inl u.2.2.1)))] H := hP
  have hD : va_D A [(h, .inr (1, [.ref aL, .int (nI 0), .ref aF, .ref aS, .ref aT, .long u.2.1, .ref aB, .long u.2.2.2.1, .int (zI u.2.2.2.2)])), (aL, .inl (cI, 4, .inl ml)), (aF, .inl (cJ, 5, .inr (.inl mf))), (aS, .inl (cJ, 5, .inr (.inl ms))), (aT, .inl (cJ, 4, .inr (.inl u.1))), (aB, .inl (cJ, 4, .inr (.inl u.2.2.1)))] := hD
  refine lv_aload_n hx hb d_M_forget_5 rfl (lv_at hl 0 rfl) ?_
  refine lv_iconst (v := nI 0) hx hb d_M_forget_6 (by decide) ?_
  refine k_toi (y := zI false) (by decide) ?_
  refine va_put (D := (dC, dI)) (ci := 1) (v := .int (zI false)) (ty := .boolean) (C := R_M) (T := T_M) (N := 9) hx hb hts iT_M t_M t_M_ok n_M hown hK hP hD hS 0 rfl rfl 8 (by decide) (hts _ wd_44) (fun _ h9 => h9) rfl (by decide +kernel) rfl rfl (Nat.le_of_ble_eq_true rfl) d_M_forget_7 (fun H locs hP hD hS => ?_)
  have hP : va_P (dC, dI) vwCl [(h, .inr (1, [.ref aL, .int (nI 0), .ref aF, .ref aS, .ref aT, .long u.2.1, .ref aB, .long u.2.2.2.1, .int (zI false)])), (aL, .inl (cI, 4, .inl ml)), (aF, .inl (cJ, 5, .inr (.inl mf))), (aS, .inl (cJ, 5, .inr (.inl ms))), (aT, .inl (cJ, 4, .inr (.inl u.1))), (aB, .inl (cJ, 4, .inr (.inl u.2.2.1)))] H := hP
  have hD : va_D A [(h, .inr (1, [.ref aL, .int (nI 0), .ref aF, .ref aS, .ref aT, .long u.2.1, .ref aB, .long u.2.2.2.1, .int (zI false)])), (aL, .inl (cI, 4, .inl ml)), (aF, .inl (cJ, 5, .inr (.inl mf))), (aS, .inl (cJ, 5, .inr (.inl ms))), (aT, .inl (cJ, 4, .inr (.inl u.1))), (aB, .inl (cJ, 4, .inr (.inl u.2.2.1)))] := hD
  exact k_vret hx hb hr hlocks () trivial hP hD hK hS [0, 1, 2, 3, 4, 5] (by decide) rfl d_M_forget_10
/-- one lot more -/
abbrev q_M_add (dC : Nat → ClassId) (dI : Nat → Nat → Nat) (cJ cI cZ : ClassId) (h : Nat) (aL : Nat) (aF : Nat) (aS : Nat) (aT : Nat) (aB : Nat) (ml : Nat → Int32) (n : Nat) (mf : Nat → Int64) (ms : Nat → Int64) (u : MixS) (x : Int32) (f : Int64) (g : Int64) (A : Nat → Prop) : Array Value → State → Outcome → State → Prop := va_Qv (fun (_ : Unit) => True) (kB (dC, dI) vwCl [(cJ, .long), (cI, .int), (cZ, .boolean)] A (fun (_ : Unit) => [(h, .inr (1, [.ref aL, .int (nI (n + 1)), .ref aF, .ref aS, .ref aT, .long u.2.1, .ref aB, .long u.2.2.2.1, .int (zI u.2.2.2.2)])), (aL, .inl (cI, 4, .inl (upd ml n x))), (aF, .inl (cJ, 5, .inr (.inl (vp_updL mf n f)))), (aS, .inl (cJ, 5, .inr (.inl (vp_updL ms n g)))), (aT, .inl (cJ, 4, .inr (.inl u.1))), (aB, .inl (cJ, 4, .inr (.inl u.2.2.1)))])) A
set_option maxHeartbeats 4000000 in
set_option maxRecDepth 100000 in
theorem k_M_add (l : Launch) (dC : Nat → ClassId) (dI : Nat → Nat → Nat) (cJ cI cZ : ClassId) (sz : Nat) (h : Nat) (aL : Nat) (aF : Nat) (aS : Nat) (aT : Nat) (aB : Nat) (ml : Nat → Int32) (n : Nat) (mf : Nat → Int64) (ms : Nat → Int64) (u : MixS) (x : Int32) (f : Int64) (g : Int64) (hn : n < 4) : Met l y_M_add w_M_add { frames := 0, cells := 0, slots := 0, locals := 0 } (kPc (dC, dI) vwCl [(cJ, .long), (cI, .int), (cZ, .boolean)] [(h, .inr (1, [.ref aL, .int (nI n), .ref aF, .ref aS, .ref aT, .long u.2.1, .ref aB, .long u.2.2.2.1, .int (zI u.2.2.2.2)])), (aL, .inl (cI, 4, .inl ml)), (aF, .inl (cJ, 5, .inr (.inl mf))), (aS, .inl (cJ, 5, .inr (.inl ms))), (aT, .inl (cJ, 4, .inr (.inl u.1))), (aB, .inl (cJ, 4, .inr (.inl u.2.2.1)))] sz [.ref h, .int x, .long f, .long g]) (q_M_add dC dI cJ cI cZ h aL aF aS aT aB ml n mf ms u x f g (va_A [(h, .inr (1, [.ref aL, .int (nI n), .ref aF, .ref aS, .ref aT, .long u.2.1, .ref aB, .long u.2.2.2.1, .int (zI u.2.2.2.2)])), (aL, .inl (cI, 4, .inl ml)), (aF, .inl (cJ, 5, .inr (.inl mf))), (aS, .inl (cJ, 5, .inr (.inl ms))), (aT, .inl (cJ, 4, .inr (.inl u.1))), (aB, .inl (cJ, 4, .inr (.inl u.2.2.1)))] sz)) 0 0 (va_A [(h, .inr (1, [.ref aL, .int (nI n), .ref aF, .ref aS, .ref aT, .long u.2.1, .ref aB, .long u.2.2.2.1, .int (zI u.2.2.2.2)])), (aL, .inl (cI, 4, .inl ml)), (aF, .inl (cJ, 5, .inr (.inl mf))), (aS, .inl (cJ, 5, .inr (.inl ms))), (aT, .inl (cJ, 4, .inr (.inl u.1))), (aB, .inl (cJ, 4, .inr (.inl u.2.2.1)))] sz) := by
  refine k_met (q_M_add dC dI cJ cI cZ h aL aF aS aT aB ml n mf ms u x f g) (by decide +kernel) rfl (Nat.le_of_ble_eq_true rfl) ?_
  intro p e s m below meth c A hx hb hr hml hown hts hlocks hin hA H hP hK hD hS ls hl
  have hl : lv_has ls 6 [(0, .ref h), (1, .int x), (2, .long f), (4, .long g)] := hl
  have hown : s.vm.findClass R_M = some m.cls := hown
  have hts : ∀ wW ∈ kT, wW.before [.ref h, .int x, .long f, .long g].toArray s = true := fun wW hW => hts wW (List.mem_cons_of_mem _ hW)
  refine lv_aload_n hx hb d_M_add_0 rfl (lv_at hl 0 rfl) ?_
  refine va_get (D := (dC, dI)) (ci := 1) (v := .int (nI n)) (C := R_M) (T := T_M) (N := 9) hx hb hts iT_M hown hK hP 0 rfl rfl 1 (by decide) (hts _ wd_37) (fun _ h9 => h9) rfl d_M_add_1 ?_
  refine lv_iconst (v := nI 4) hx hb d_M_add_4 (by decide) ?_
  refine k_nlt (tgt := 9) hx hb d_M_add_5 (by decide) (by omega) (by omega) (fun c_5 => ?_) (fun c_5 => ?_)
  · refine lv_aload_n hx hb d_M_add_9 rfl (lv_at hl 0 rfl) ?_
    refine va_get (D := (dC, dI)) (ci := 1) (v := .ref aL) (C := R_M) (T := T_M) (N := 9) hx hb hts iT_M hown hK hP 0 rfl rfl 0 (by decide) (hts _ wd_36) (fun _ h9 => h9) rfl d_M_add_10 ?_
    refine lv_aload_n hx hb d_M_add_13 rfl (lv_at hl 0 rfl) ?_
    refine va_get (D := (dC, dI)) (ci := 1) (v := .int (nI n)) (C := R_M) (T := T_M) (N := 9) hx hb hts iT_M hown hK hP 0 rfl rfl 1 (by decide) (hts _ wd_37) (fun _ h9 => h9) rfl d_M_add_14 ?_
    refine lv_iload_n hx hb d_M_add_17 rfl (lv_at hl 1 rfl) ?_
    refine k_iast (j := n) hx hb hK hP hD hS 1 1 rfl rfl (by omega) (by decide) d_M_add_18 (fun H locs hP hD hS => ?_)
    have hP : va_P (dC, dI) vwCl [(h, .inr (1, [.ref aL, .int (nI n), .ref aF, .ref aS, .ref aT, .long u.2.1, .ref aB, .long u.2.2.2.1, .int (zI u.2.2.2.2)])), (aL, .inl (cI, 4, .inl (upd ml n x))), (aF, .inl (cJ, 5, .inr (.inl mf))), (aS, .inl (cJ, 5, .inr (.inl ms))), (aT, .inl (cJ, 4, .inr (.inl u.1))), (aB, .inl (cJ, 4, .inr (.inl u.2.2.1)))] H := hP
    have hD : va_D A [(h, .inr (1, [.ref aL, .int (nI n), .ref aF, .ref aS, .ref aT, .long u.2.1, .ref aB, .long u.2.2.2.1, .int (zI u.2.2.2.2)])), (aL, .inl (cI, 4, .inl (upd ml n x))), (aF, .inl (cJ, 5, .inr (.inl mf))), (aS, .inl (cJ, 5, .inr (.inl ms))), (aT, .inl (cJ, 4, .inr (.inl u.1))), (aB, .inl (cJ, 4, .inr (.inl u.2.2.1)))] := hD
    refine lv_aload_n hx hb d_M_add_19 rfl (lv_at hl 0 rfl) ?_
    refine va_get (D := (dC, dI)) (ci := 1) (v := .ref aF) (C := R_M) (T := T_M) (N := 9) hx hb hts iT_M hown hK hP 0 rfl rfl 2 (by decide) (hts _ wd_38) (fun _ h9 => h9) rfl d_M_add_20 ?_
    refine lv_aload_n hx hb d_M_add_23 rfl (lv_at hl 0 rfl) ?_
    refine va_get (D := (dC, dI)) (ci := 1) (v := .int (nI n)) (C := R_M) (T := T_M) (N := 9) hx hb hts iT_M hown hK hP 0 rfl rfl 1 (by decide) (hts _ wd_37) (fun _ h9 => h9) rfl d_M_add_24 ?_
    refine lv_lload_n hx hb d_M_add_27 rfl (lv_at hl 2 rfl) ?_
    refine k_last (j := n) hx hb hK hP hD hS 2 0 rfl rfl (by omega) (by decide) d_M_add_28 (fun H locs hP hD hS => ?_)
    have hP : va_P (dC, dI) vwCl [(h, .inr (1, [.ref aL, .int (nI n), .ref aF, .ref aS, .ref aT, .long u.2.1, .ref aB, .long u.2.2.2.1, .int (zI u.2.2.2.2)])), (aL, .inl (cI, 4, .inl (upd ml n x))), (aF, .inl (cJ, 5, .inr (.inl (vp_updL mf n f)))), (aS, .inl (cJ, 5, .inr (.inl ms))), (aT, .inl (cJ, 4, .inr (.inl u.1))), (aB, .inl (cJ, 4, .inr (.inl u.2.2.1)))] H := hP
    have hD : va_D A [(h, .inr (1, [.ref aL, .int (nI n), .ref aF, .ref aS, .ref aT, .long u.2.1, .ref aB, .long u.2.2.2.1, .int (zI u.2.2.2.2)])), (aL, .inl (cI, 4, .inl (upd ml n x))), (aF, .inl (cJ, 5, .inr (.inl (vp_updL mf n f)))), (aS, .inl (cJ, 5, .inr (.inl ms))), (aT, .inl (cJ, 4, .inr (.inl u.1))), (aB, .inl (cJ, 4, .inr (.inl u.2.2.1)))] := hD
    refine lv_aload_n hx hb d_M_add_29 rfl (lv_at hl 0 rfl) ?_
    refine va_get (D := (dC, dI)) (ci := 1) (v := .ref aS) (C := R_M) (T := T_M) (N := 9) hx hb hts iT_M hown hK hP 0 rfl rfl 3 (by decide) (hts _ wd_39) (fun _ h9 => h9) rfl d_M_add_30 ?_
    refine lv_aload_n hx hb d_M_add_33 rfl (lv_at hl 0 rfl) ?_
    refine va_get (D := (dC, dI)) (ci := 1) (v := .int (nI n)) (C := R_M) (T := T_M) (N := 9) hx hb hts iT_M hown hK hP 0 rfl rfl 1 (by decide) (hts _ wd_37) (fun _ h9 => h9) rfl d_M_add_34 ?_
    refine lv_lload hx hb d_M_add_37 (lv_at hl 3 rfl) ?_
    refine k_last (j := n) hx hb hK hP hD hS 3 0 rfl rfl (by omega) (by decide) d_M_add_39 (fun H locs hP hD hS => ?_)
    have hP : va_P (dC, dI) vwCl [(h, .inr (1, [.ref aL, .int (nI n), .ref aF, .ref aS, .ref aT, .long u.2.1, .ref aB, .long u.2.2.2.1, .int (zI u.2.2.2.2)])), (aL, .inl (cI, 4, .inl (upd ml n x))), (aF, .inl (cJ, 5, .inr (.inl (vp_updL mf n f)))), (aS, .inl (cJ, 5, .inr (.inl (vp_updL ms n g)))), (aT, .inl (cJ, 4, .inr (.inl u.1))), (aB, .inl (cJ, 4, .inr (.inl u.2.2.1)))] H := hP
    have hD : va_D A [(h, .inr (1, [.ref aL, .int (nI n), .ref aF, .ref aS, .ref aT, .long u.2.1, .ref aB, .long u.2.2.2.1, .int (zI u.2.2.2.2)])), (aL, .inl (cI, 4, .inl (upd ml n x))), (aF, .inl (cJ, 5, .inr (.inl (vp_updL mf n f)))), (aS, .inl (cJ, 5, .inr (.inl (vp_updL ms n g)))), (aT, .inl (cJ, 4, .inr (.inl u.1))), (aB, .inl (cJ, 4, .inr (.inl u.2.2.1)))] := hD
    refine lv_aload_n hx hb d_M_add_40 rfl (lv_at hl 0 rfl) ?_
    refine lv_dup hx hb d_M_add_41 rfl ?_
    refine va_get (D := (dC, dI)) (ci := 1) (v := .int (nI n)) (C := R_M) (T := T_M) (N := 9) hx hb hts iT_M hown hK hP 0 rfl rfl 1 (by decide) (hts _ wd_37) (fun _ h9 => h9) rfl d_M_add_42 ?_
    refine lv_iconst (v := nI 1) hx hb d_M_add_45 (by decide) ?_
    refine lv_iadd hx hb d_M_add_46 ?_
    refine k_toi (nI_add n 1) ?_
    refine va_put (D := (dC, dI)) (ci := 1) (v := .int (nI (n + 1))) (ty := .int) (C := R_M) (T := T_M) (N := 9) hx hb hts iT_M t_M t_M_ok n_M hown hK hP hD hS 0 rfl rfl 1 (by decide) (hts _ wd_37) (fun _ h9 => h9) rfl (by decide +kernel) rfl rfl (Nat.le_of_ble_eq_true rfl) d_M_add_47 (fun H locs hP hD hS => ?_)
    have hP : va_P (dC, dI) vwCl [(h, .inr (1, [.ref aL, .int (nI (n + 1)), .ref aF, .ref aS, .ref aT, .long u.2.1, .ref aB, .long u.2.2.2.1, .int (zI u.2.2.2.2)])), (aL, .inl (cI, 4, .inl (upd ml n x))), (aF, .inl (cJ, 5, .inr (.inl (vp_updL mf n f)))), (aS, .inl (cJ, 5, .inr (.inl (vp_updL ms n g)))), (aT, .inl (cJ, 4, .inr (.inl u.1))), (aB, .inl (cJ, 4, .inr (.inl u.2.2.1)))] H := hP
    have hD : va_D A [(h, .inr (1, [.ref aL, .int (nI (n + 1)), .ref aF, .ref aS, .ref aT, .long u.2.1, .ref aB, .long u.2.2.2.1, .int (zI u.2.2.2.2)])), (aL, .inl (cI, 4, .inl (upd ml n x))), (aF, .inl (cJ, 5, .inr (.inl (vp_updL mf n f)))), (aS, .inl (cJ, 5, .inr (.inl (vp_updL ms n g)))), (aT, .inl (cJ, 4, .inr (.inl u.1))), (aB, .inl (cJ, 4, .inr (.inl u.2.2.1)))] := hD
    exact k_vret hx hb hr hlocks () trivial hP hD hK hS [0, 1, 2, 3, 4, 5] (by decide) rfl d_M_add_50
  · exact absurd c_5 (by omega)
/-- M_isMet -/
abbrev q_M_isMet (dC : Nat → ClassId) (dI : Nat → Nat → Nat) (cJ cI cZ : ClassId) (h : Nat) (aL : Nat) (aF : Nat) (aS : Nat) (aT : Nat) (aB : Nat) (ml : Nat → Int32) (n : Nat) (mf : Nat → Int64) (ms : Nat → Int64) (u : MixS) (A : Nat → Prop) : Array Value → State → Outcome → State → Prop := va_Qi (fun (r : Int32) (_ : Unit) => r = zI u.2.2.2.2) (kB (dC, dI) vwCl [(cJ, .long), (cI, .int), (cZ, .boolean)] A (fun (_ : Unit) => [(h, .inr (1, [.ref aL, .int (nI n), .ref aF, .ref aS, .ref aT, .long u.2.1, .ref aB, .long u.2.2.2.1, .int (zI u.2.2.2.2)])), (aL, .inl (cI, 4, .inl ml)), (aF, .inl (cJ, 5, .inr (.inl mf))), (aS, .inl (cJ, 5, .inr (.inl ms))), (aT, .inl (cJ, 4, .inr (.inl u.1))), (aB, .inl (cJ, 4, .inr (.inl u.2.2.1)))])) A
set_option maxHeartbeats 4000000 in
set_option maxRecDepth 100000 in
theorem k_M_isMet (l : Launch) (dC : Nat → ClassId) (dI : Nat → Nat → Nat) (cJ cI cZ : ClassId) (sz : Nat) (h : Nat) (aL : Nat) (aF : Nat) (aS : Nat) (aT : Nat) (aB : Nat) (ml : Nat → Int32) (n : Nat) (mf : Nat → Int64) (ms : Nat → Int64) (u : MixS)  : Met l y_M_isMet w_M_isMet { frames := 0, cells := 0, slots := 0, locals := 0 } (kPc (dC, dI) vwCl [(cJ, .long), (cI, .int), (cZ, .boolean)] [(h, .inr (1, [.ref aL, .int (nI n), .ref aF, .ref aS, .ref aT, .long u.2.1, .ref aB, .long u.2.2.2.1, .int (zI u.2.2.2.2)])), (aL, .inl (cI, 4, .inl ml)), (aF, .inl (cJ, 5, .inr (.inl mf))), (aS, .inl (cJ, 5, .inr (.inl ms))), (aT, .inl (cJ, 4, .inr (.inl u.1))), (aB, .inl (cJ, 4, .inr (.inl u.2.2.1)))] sz [.ref h]) (q_M_isMet dC dI cJ cI cZ h aL aF aS aT aB ml n mf ms u (va_A [(h, .inr (1, [.ref aL, .int (nI n), .ref aF, .ref aS, .ref aT, .long u.2.1, .ref aB, .long u.2.2.2.1, .int (zI u.2.2.2.2)])), (aL, .inl (cI, 4, .inl ml)), (aF, .inl (cJ, 5, .inr (.inl mf))), (aS, .inl (cJ, 5, .inr (.inl ms))), (aT, .inl (cJ, 4, .inr (.inl u.1))), (aB, .inl (cJ, 4, .inr (.inl u.2.2.1)))] sz)) 0 0 (va_A [(h, .inr (1, [.ref aL, .int (nI n), .ref aF, .ref aS, .ref aT, .long u.2.1, .ref aB, .long u.2.2.2.1, .int (zI u.2.2.2.2)])), (aL, .inl (cI, 4, .inl ml)), (aF, .inl (cJ, 5, .inr (.inl mf))), (aS, .inl (cJ, 5, .inr (.inl ms))), (aT, .inl (cJ, 4, .inr (.inl u.1))), (aB, .inl (cJ, 4, .inr (.inl u.2.2.1)))] sz) := by
  refine k_met (q_M_isMet dC dI cJ cI cZ h aL aF aS aT aB ml n mf ms u) (by decide +kernel) rfl (Nat.le_of_ble_eq_true rfl) ?_
  intro p e s m below meth c A hx hb hr hml hown hts hlocks hin hA H hP hK hD hS ls hl
  have hl : lv_has ls 1 [(0, .ref h)] := hl
  have hown : s.vm.findClass R_M = some m.cls := hown
  have hts : ∀ wW ∈ kT, wW.before [.ref h].toArray s = true := fun wW hW => hts wW (List.mem_cons_of_mem _ hW)
  refine lv_aload_n hx hb d_M_isMet_0 rfl (lv_at hl 0 rfl) ?_
  refine va_get (D := (dC, dI)) (ci := 1) (v := .int (zI u.2.2.2.2)) (C := R_M) (T := T_M) (N := 9) hx hb hts iT_M hown hK hP 0 rfl rfl 8 (by decide) (hts _ wd_44) (fun _ h9 => h9) rfl d_M_isMet_1 ?_
  exact k_zret (v := zI u.2.2.2.2) hx hb hr hlocks (k_zn _) () rfl hP hD hK hS [0, 1, 2, 3, 4, 5] (by decide) rfl d_M_isMet_4
/-- M_belowOfAll -/
abbrev q_M_belowOfAll (dC : Nat → ClassId) (dI : Nat → Nat → Nat) (cJ cI cZ : ClassId) (h : Nat) (aL : Nat) (aF : Nat) (aS : Nat) (aT : Nat) (aB : Nat) (ml : Nat → Int32) (n : Nat) (mf : Nat → Int64) (ms : Nat → Int64) (u : MixS) (A : Nat → Prop) : Array Value → State → Outcome → State → Prop := va_Ql (fun (r : Int64) (_ : Unit) => r = u.2.2.2.1) (kB (dC, dI) vwCl [(cJ, .long), (cI, .int), (cZ, .boolean)] A (fun (_ : Unit) => [(h, .inr (1, [.ref aL, .int (nI n), .ref aF, .ref aS, .ref aT, .long u.2.1, .ref aB, .long u.2.2.2.1, .int (zI u.2.2.2.2)])), (aL, .inl (cI, 4, .inl ml)), (aF, .inl (cJ, 5, .inr (.inl mf))), (aS, .inl (cJ, 5, .inr (.inl ms))), (aT, .inl (cJ, 4, .inr (.inl u.1))), (aB, .inl (cJ, 4, .inr (.inl u.2.2.1)))])) A
set_option maxHeartbeats 4000000 in
set_option maxRecDepth 100000 in
theorem k_M_belowOfAll (l : Launch) (dC : Nat → ClassId) (dI : Nat → Nat → Nat) (cJ cI cZ : ClassId) (sz : Nat) (h : Nat) (aL : Nat) (aF : Nat) (aS : Nat) (aT : Nat) (aB : Nat) (ml : Nat → Int32) (n : Nat) (mf : Nat → Int64) (ms : Nat → Int64) (u : MixS)  : Met l y_M_belowOfAll w_M_belowOfAll { frames := 0, cells := 0, slots := 0, locals := 0 } (kPc (dC, dI) vwCl [(cJ, .long), (cI, .int), (cZ, .boolean)] [(h, .inr (1, [.ref aL, .int (nI n), .ref aF, .ref aS, .ref aT, .long u.2.1, .ref aB, .long u.2.2.2.1, .int (zI u.2.2.2.2)])), (aL, .inl (cI, 4, .inl ml)), (aF, .inl (cJ, 5, .inr (.inl mf))), (aS, .inl (cJ, 5, .inr (.inl ms))), (aT, .inl (cJ, 4, .inr (.inl u.1))), (aB, .inl (cJ, 4, .inr (.inl u.2.2.1)))] sz [.ref h]) (q_M_belowOfAll dC dI cJ cI cZ h aL aF aS aT aB ml n mf ms u (va_A [(h, .inr (1, [.ref aL, .int (nI n), .ref aF, .ref aS, .ref aT, .long u.2.1, .ref aB, .long u.2.2.2.1, .int (zI u.2.2.2.2)])), (aL, .inl (cI, 4, .inl ml)), (aF, .inl (cJ, 5, .inr (.inl mf))), (aS, .inl (cJ, 5, .inr (.inl ms))), (aT, .inl (cJ, 4, .inr (.inl u.1))), (aB, .inl (cJ, 4, .inr (.inl u.2.2.1)))] sz)) 0 0 (va_A [(h, .inr (1, [.ref aL, .int (nI n), .ref aF, .ref aS, .ref aT, .long u.2.1, .ref aB, .long u.2.2.2.1, .int (zI u.2.2.2.2)])), (aL, .inl (cI, 4, .inl ml)), (aF, .inl (cJ, 5, .inr (.inl mf))), (aS, .inl (cJ, 5, .inr (.inl ms))), (aT, .inl (cJ, 4, .inr (.inl u.1))), (aB, .inl (cJ, 4, .inr (.inl u.2.2.1)))] sz) := by
  refine k_met (q_M_belowOfAll dC dI cJ cI cZ h aL aF aS aT aB ml n mf ms u) (by decide +kernel) rfl (Nat.le_of_ble_eq_true rfl) ?_
  intro p e s m below meth c A hx hb hr hml hown hts hlocks hin hA H hP hK hD hS ls hl
  have hl : lv_has ls 1 [(0, .ref h)] := hl
  have hown : s.vm.findClass R_M = some m.cls := hown
  have hts : ∀ wW ∈ kT, wW.before [.ref h].toArray s = true := fun wW hW => hts wW (List.mem_cons_of_mem _ hW)
  refine lv_aload_n hx hb d_M_belowOfAll_0 rfl (lv_at hl 0 rfl) ?_
  refine va_get (D := (dC, dI)) (ci := 1) (v := .long u.2.2.2.1) (C := R_M) (T := T_M) (N := 9) hx hb hts iT_M hown hK hP 0 rfl rfl 7 (by decide) (hts _ wd_43) (fun _ h9 => h9) rfl d_M_belowOfAll_1 ?_
  exact k_lret (v := u.2.2.2.1) hx hb hr hlocks () rfl hP hD hK hS [0, 1, 2, 3, 4, 5] (by decide) rfl d_M_belowOfAll_4
/-- M_aboveOf -/
abbrev q_M_aboveOf (dC : Nat → ClassId) (dI : Nat → Nat → Nat) (cJ cI cZ : ClassId) (h : Nat) (aL : Nat) (aF : Nat) (aS : Nat) (aT : Nat) (aB : Nat) (ml : Nat → Int32) (n : Nat) (mf : Nat → Int64) (ms : Nat → Int64) (u : MixS) (x : Int32) (A : Nat → Prop) : Array Value → State → Outcome → State → Prop := va_Ql (fun (r : Int64) (_ : Unit) => r = abF ml n u.2.2.1 x) (kB (dC, dI) vwCl [(cJ, .long), (cI, .int), (cZ, .boolean)] A (fun (_ : Unit) => [(h, .inr (1, [.ref aL, .int (nI n), .ref aF, .ref aS, .ref aT, .long u.2.1, .ref aB, .long u.2.2.2.1, .int (zI u.2.2.2.2)])), (aL, .inl (cI, 4, .inl ml)), (aF, .inl (cJ, 5, .inr (.inl mf))), (aS, .inl (cJ, 5, .inr (.inl ms))), (aT, .inl (cJ, 4, .inr (.inl u.1))), (aB, .inl (cJ, 4, .inr (.inl u.2.2.1)))])) A
set_option maxHeartbeats 4000000 in
set_option maxRecDepth 100000 in
theorem k_M_aboveOf (l : Launch) (dC : Nat → ClassId) (dI : Nat → Nat → Nat) (cJ cI cZ : ClassId) (sz : Nat) (h : Nat) (aL : Nat) (aF : Nat) (aS : Nat) (aT : Nat) (aB : Nat) (ml : Nat → Int32) (n : Nat) (mf : Nat → Int64) (ms : Nat → Int64) (u : MixS) (x : Int32) (hn : n ≤ 4) : Met l y_M_aboveOf w_M_aboveOf { frames := 0, cells := 0, slots := 0, locals := 0 } (kPc (dC, dI) vwCl [(cJ, .long), (cI, .int), (cZ, .boolean)] [(h, .inr (1, [.ref aL, .int (nI n), .ref aF, .ref aS, .ref aT, .long u.2.1, .ref aB, .long u.2.2.2.1, .int (zI u.2.2.2.2)])), (aL, .inl (cI, 4, .inl ml)), (aF, .inl (cJ, 5, .inr (.inl mf))), (aS, .inl (cJ, 5, .inr (.inl ms))), (aT, .inl (cJ, 4, .inr (.inl u.1))), (aB, .inl (cJ, 4, .inr (.inl u.2.2.1)))] sz [.ref h, .int x]) (q_M_aboveOf dC dI cJ cI cZ h aL aF aS aT aB ml n mf ms u x (va_A [(h, .inr (1, [.ref aL, .int (nI n), .ref aF, .ref aS, .ref aT, .long u.2.1, .ref aB, .long u.2.2.2.1, .int (zI u.2.2.2.2)])), (aL, .inl (cI, 4, .inl ml)), (aF, .inl (cJ, 5, .inr (.inl mf))), (aS, .inl (cJ, 5, .inr (.inl ms))), (aT, .inl (cJ, 4, .inr (.inl u.1))), (aB, .inl (cJ, 4, .inr (.inl u.2.2.1)))] sz)) 0 0 (va_A [(h, .inr (1, [.ref aL, .int (nI n), .ref aF, .ref aS, .ref aT, .long u.2.1, .ref aB, .long u.2.2.2.1, .int (zI u.2.2.2.2)])), (aL, .inl (cI, 4, .inl ml)), (aF, .inl (cJ, 5, .inr (.inl mf))), (aS, .inl (cJ, 5, .inr (.inl ms))), (aT, .inl (cJ, 4, .inr (.inl u.1))), (aB, .inl (cJ, 4, .inr (.inl u.2.2.1)))] sz) := by
  refine k_met (q_M_aboveOf dC dI cJ cI cZ h aL aF aS aT aB ml n mf ms u x) (by decide +kernel) rfl (Nat.le_of_ble_eq_true rfl) ?_
  intro p e s m below meth c A hx hb hr hml hown hts hlocks hin hA H hP hK hD hS ls hl
  have hl : lv_has ls 3 [(0, .ref h), (1, .int x)] := hl
  have hown : s.vm.findClass R_M = some m.cls := hown
  have hts : ∀ wW ∈ kT, wW.before [.ref h, .int x].toArray s = true := fun wW hW => hts wW (List.mem_cons_of_mem _ hW)
  refine lv_iconst (v := nI 0) hx hb d_M_aboveOf_0 (by decide) ?_
  refine lv_istore_n (lv' := [(2, .int (nI 0)), (0, .ref h), (1, .int x)]) hx hb d_M_aboveOf_1 rfl hl (by decide) rfl (fun ls hl => ?_)
  have loop_2 : ∀ (fu_2 : Nat) (i : Nat) (hi : i ≤ n) (hv : fdN (fun j => decide (ml j = x)) (n - i) i = fd (fun j => decide (ml j = x)) n) (hfu_2 : n + 1 ≤ i + fu_2) (H : Heap) (locs : List Loc) (ls : Array Slot), va_P (dC, dI) vwCl [(h, .inr (1, [.ref aL, .int (nI n), .ref aF, .ref aS, .ref aT, .long u.2.1, .ref aB, .long u.2.2.2.1, .int (zI u.2.2.2.2)])), (aL, .inl (cI, 4, .inl ml)), (aF, .inl (cJ, 5, .inr (.inl mf))), (aS, .inl (cJ, 5, .inr (.inl ms))), (aT, .inl (cJ, 4, .inr (.inl u.1))), (aB, .inl (cJ, 4, .inr (.inl u.2.2.1)))] H → va_D A [(h, .inr (1, [.ref aL, .int (nI n), .ref aF, .ref aS, .ref aT, .long u.2.1, .ref aB, .long u.2.2.2.1, .int (zI u.2.2.2.2)])), (aL, .inl (cI, 4, .inl ml)), (aF, .inl (cJ, 5, .inr (.inl mf))), (aS, .inl (cJ, 5, .inr (.inl ms))), (aT, .inl (cJ, 4, .inr (.inl u.1))), (aB, .inl (cJ, 4, .inr (.inl u.2.2.1)))] → va_S A s.heap H locs → lv_has ls 3 [(0, .ref h), (1, .int x), (2, .int (nI i))] → W p l e { frames := 0, cells := 0, slots := 0, locals := 0 } s m [.ref h, .int x].toArray below meth c H locs 0 0 (MQ below (q_M_aboveOf dC dI cJ cI cZ h aL aF aS aT aB ml n mf ms u x A) [.ref h, .int x].toArray s 0 0 A) (F0 m 2 ls []) := by
    intro fu_2
    induction fu_2 with
    | zero =>
      intro i hi hv hfu_2 H locs ls hP hD hS hl
      exact absurd hfu_2 (by omega)
    | succ fu_2 ih_2 =>
      intro i hi hv hfu_2 H locs ls hP hD hS hl
      refine lv_iload_n hx hb d_M_aboveOf_2 rfl (lv_at hl 2 rfl) ?_
      refine lv_aload_n hx hb d_M_aboveOf_3 rfl (lv_at hl 0 rfl) ?_
      refine va_get (D := (dC, dI)) (ci := 1) (v := .int (nI n)) (C := R_M) (T := T_M) (N := 9) hx hb hts iT_M hown hK hP 0 rfl rfl 1 (by decide) (hts _ wd_37) (fun _ h9 => h9) rfl d_M_aboveOf_4 ?_
      refine k_nge (tgt := 33) hx hb d_M_aboveOf_7 (by decide) (by omega) (by omega) (fun c_7 => ?_) (fun c_7 => ?_)
      · refine lv_lconst (v := 0) hx hb d_M_aboveOf_33 (by decide) ?_
        exact k_lret (v := 0) hx hb hr hlocks () (by unfold abF; rw [← hv, fdN_end (P := fun j => decide (ml j = x)) c_7, if_neg (by omega)]) hP hD hK hS [0, 1, 2, 3, 4, 5] (by decide) rfl d_M_aboveOf_34
      · refine lv_aload_n hx hb d_M_aboveOf_10 rfl (lv_at hl 0 rfl) ?_
        refine va_get (D := (dC, dI)) (ci := 1) (v := .ref aL) (C := R_M) (T := T_M) (N := 9) hx hb hts iT_M hown hK hP 0 rfl rfl 0 (by decide) (hts _ wd_36) (fun _ h9 => h9) rfl d_M_aboveOf_11 ?_
        refine lv_iload_n hx hb d_M_aboveOf_14 rfl (lv_at hl 2 rfl) ?_
        refine k_iald (j := i) hx hb hK hP 1 1 rfl rfl (by omega) (by decide) d_M_aboveOf_15 ?_
        refine lv_iload_n hx hb d_M_aboveOf_16 rfl (lv_at hl 1 rfl) ?_
        refine lv_icmp_ne (tgt := 27) hx hb d_M_aboveOf_17 (by decide) (fun c_17 => ?_) (fun c_17 => ?_)
        · refine lv_iinc (v := nI (i + 1)) (lv' := [(2, .int (nI (i + 1))), (0, .ref h), (1, .int x)]) hx hb d_M_aboveOf_27 hl (k := 2) rfl (nI_add i 1) (by decide) rfl (fun ls hl => ?_)
          refine lv_goto (tgt := 2) hx hb d_M_aboveOf_30 (by decide) ?_
          exact ih_2 (i + 1) (by omega) ((fdN_go (P := fun j => decide (ml j = x)) c_7 (decide_eq_false c_17)).symm.trans hv) (by omega) _ _ _ hP hD hS (lv_sub hl [1, 2, 0] rfl)
        · refine lv_aload_n hx hb d_M_aboveOf_20 rfl (lv_at hl 0 rfl) ?_
          refine va_get (D := (dC, dI)) (ci := 1) (v := .ref aB) (C := R_M) (T := T_M) (N := 9) hx hb hts iT_M hown hK hP 0 rfl rfl 6 (by decide) (hts _ wd_42) (fun _ h9 => h9) rfl d_M_aboveOf_21 ?_
          refine lv_iload_n hx hb d_M_aboveOf_24 rfl (lv_at hl 2 rfl) ?_
          refine k_lald (j := i) hx hb hK hP 5 0 rfl rfl (by omega) (by decide) d_M_aboveOf_25 ?_
          exact k_lret (v := u.2.2.1 i) hx hb hr hlocks () (by unfold abF; rw [← hv, fdN_hit (P := fun j => decide (ml j = x)) c_7 (decide_eq_true c_17), if_pos c_7]) hP hD hK hS [0, 1, 2, 3, 4, 5] (by decide) rfl d_M_aboveOf_26
  exact loop_2 (n + 1) 0 (by omega) rfl (by omega) _ _ _ hP hD hS (lv_sub hl [1, 2, 0] rfl)
/-- M_product -/
abbrev q_M_product (dC : Nat → ClassId) (dI : Nat → Nat → Nat) (cJ cI cZ : ClassId) (h : Nat) (aL : Nat) (aF : Nat) (aS : Nat) (aT : Nat) (aB : Nat) (ml : Nat → Int32) (n : Nat) (mf : Nat → Int64) (ms : Nat → Int64) (u : MixS) (i : Nat) (j : Nat) (k : Nat) (A : Nat → Prop) : Array Value → State → Outcome → State → Prop := va_Ql (fun (r : Int64) (_ : Unit) => r = prodF mf ms i j k) (kB (dC, dI) vwCl [(cJ, .long), (cI, .int), (cZ, .boolean)] A (fun (_ : Unit) => [(h, .inr (1, [.ref aL, .int (nI n), .ref aF, .ref aS, .ref aT, .long u.2.1, .ref aB, .long u.2.2.2.1, .int (zI u.2.2.2.2)])), (aL, .inl (cI, 4, .inl ml)), (aF, .inl (cJ, 5, .inr (.inl mf))), (aS, .inl (cJ, 5, .inr (.inl ms))), (aT, .inl (cJ, 4, .inr (.inl u.1))), (aB, .inl (cJ, 4, .inr (.inl u.2.2.1)))])) A
set_option maxHeartbeats 4000000 in
set_option maxRecDepth 100000 in
theorem k_M_product (l : Launch) (dC : Nat → ClassId) (dI : Nat → Nat → Nat) (cJ cI cZ : ClassId) (sz : Nat) (h : Nat) (aL : Nat) (aF : Nat) (aS : Nat) (aT : Nat) (aB : Nat) (ml : Nat → Int32) (n : Nat) (mf : Nat → Int64) (ms : Nat → Int64) (u : MixS) (i : Nat) (j : Nat) (k : Nat) (hi : i < 5) (hj : j < 5) (hk : k < 5) : Met l y_M_product w_M_product { frames := 0, cells := 0, slots := 0, locals := 0 } (kPc (dC, dI) vwCl [(cJ, .long), (cI, .int), (cZ, .boolean)] [(h, .inr (1, [.ref aL, .int (nI n), .ref aF, .ref aS, .ref aT, .long u.2.1, .ref aB, .long u.2.2.2.1, .int (zI u.2.2.2.2)])), (aL, .inl (cI, 4, .inl ml)), (aF, .inl (cJ, 5, .inr (.inl mf))), (aS, .inl (cJ, 5, .inr (.inl ms))), (aT, .inl (cJ, 4, .inr (.inl u.1))), (aB, .inl (cJ, 4, .inr (.inl u.2.2.1)))] sz [.ref h, .int (nI i), .int (nI j), .int (nI k)]) (q_M_product dC dI cJ cI cZ h aL aF aS aT aB ml n mf ms u i j k (va_A [(h, .inr (1, [.ref aL, .int (nI n), .ref aF, .ref aS, .ref aT, .long u.2.1, .ref aB, .long u.2.2.2.1, .int (zI u.2.2.2.2)])), (aL, .inl (cI, 4, .inl ml)), (aF, .inl (cJ, 5, .inr (.inl mf))), (aS, .inl (cJ, 5, .inr (.inl ms))), (aT, .inl (cJ, 4, .inr (.inl u.1))), (aB, .inl (cJ, 4, .inr (.inl u.2.2.1)))] sz)) 0 0 (va_A [(h, .inr (1, [.ref aL, .int (nI n), .ref aF, .ref aS, .ref aT, .long u.2.1, .ref aB, .long u.2.2.2.1, .int (zI u.2.2.2.2)])), (aL, .inl (cI, 4, .inl ml)), (aF, .inl (cJ, 5, .inr (.inl mf))), (aS, .inl (cJ, 5, .inr (.inl ms))), (aT, .inl (cJ, 4, .inr (.inl u.1))), (aB, .inl (cJ, 4, .inr (.inl u.2.2.1)))] sz) := by
  refine k_met (q_M_product dC dI cJ cI cZ h aL aF aS aT aB ml n mf ms u i j k) (by decide +kernel) rfl (Nat.le_of_ble_eq_true rfl) ?_
  intro p e s m below meth c A hx hb hr hml hown hts hlocks hin hA H hP hK hD hS ls hl
  have hl : lv_has ls 4 [(0, .ref h), (1, .int (nI i)), (2, .int (nI j)), (3, .int (nI k))] := hl
  have hown : s.vm.findClass R_M = some m.cls := hown
  have hts : ∀ wW ∈ kT, wW.before [.ref h, .int (nI i), .int (nI j), .int (nI k)].toArray s = true := fun wW hW => hts wW (List.mem_cons_of_mem _ hW)
  refine lv_aload_n hx hb d_M_product_0 rfl (lv_at hl 0 rfl) ?_
  refine va_get (D := (dC, dI)) (ci := 1) (v := .ref aF) (C := R_M) (T := T_M) (N := 9) hx hb hts iT_M hown hK hP 0 rfl rfl 2 (by decide) (hts _ wd_38) (fun _ h9 => h9) rfl d_M_product_1 ?_
  refine lv_iload_n hx hb d_M_product_4 rfl (lv_at hl 2 rfl) ?_
  refine k_lald (j := j) hx hb hK hP 2 0 rfl rfl (by omega) (by decide) d_M_product_5 ?_
  refine lv_aload_n hx hb d_M_product_6 rfl (lv_at hl 0 rfl) ?_
  refine va_get (D := (dC, dI)) (ci := 1) (v := .ref aF) (C := R_M) (T := T_M) (N := 9) hx hb hts iT_M hown hK hP 0 rfl rfl 2 (by decide) (hts _ wd_38) (fun _ h9 => h9) rfl d_M_product_7 ?_
  refine lv_iload_n hx hb d_M_product_10 rfl (lv_at hl 1 rfl) ?_
  refine k_lald (j := i) hx hb hK hP 2 0 rfl rfl (by omega) (by decide) d_M_product_11 ?_
  refine lv_lsub hx hb d_M_product_12 ?_
  refine lv_aload_n hx hb d_M_product_13 rfl (lv_at hl 0 rfl) ?_
  refine va_get (D := (dC, dI)) (ci := 1) (v := .ref aF) (C := R_M) (T := T_M) (N := 9) hx hb hts iT_M hown hK hP 0 rfl rfl 2 (by decide) (hts _ wd_38) (fun _ h9 => h9) rfl d_M_product_14 ?_
  refine lv_iload_n hx hb d_M_product_17 rfl (lv_at hl 3 rfl) ?_
  refine k_lald (j := k) hx hb hK hP 2 0 rfl rfl (by omega) (by decide) d_M_product_18 ?_
  refine lv_aload_n hx hb d_M_product_19 rfl (lv_at hl 0 rfl) ?_
  refine va_get (D := (dC, dI)) (ci := 1) (v := .ref aF) (C := R_M) (T := T_M) (N := 9) hx hb hts iT_M hown hK hP 0 rfl rfl 2 (by decide) (hts _ wd_38) (fun _ h9 => h9) rfl d_M_product_20 ?_
  refine lv_iload_n hx hb d_M_product_23 rfl (lv_at hl 1 rfl) ?_
  refine k_lald (j := i) hx hb hK hP 2 0 rfl rfl (by omega) (by decide) d_M_product_24 ?_
  refine lv_lsub hx hb d_M_product_25 ?_
  refine lv_lmul hx hb d_M_product_26 ?_
  refine lv_aload_n hx hb d_M_product_27 rfl (lv_at hl 0 rfl) ?_
  refine va_get (D := (dC, dI)) (ci := 1) (v := .ref aS) (C := R_M) (T := T_M) (N := 9) hx hb hts iT_M hown hK hP 0 rfl rfl 3 (by decide) (hts _ wd_39) (fun _ h9 => h9) rfl d_M_product_28 ?_
  refine lv_iload_n hx hb d_M_product_31 rfl (lv_at hl 2 rfl) ?_
  refine k_lald (j := j) hx hb hK hP 3 0 rfl rfl (by omega) (by decide) d_M_product_32 ?_
  refine lv_aload_n hx hb d_M_product_33 rfl (lv_at hl 0 rfl) ?_
  refine va_get (D := (dC, dI)) (ci := 1) (v := .ref aS) (C := R_M) (T := T_M) (N := 9) hx hb hts iT_M hown hK hP 0 rfl rfl 3 (by decide) (hts _ wd_39) (fun _ h9 => h9) rfl d_M_product_34 ?_
  refine lv_iload_n hx hb d_M_product_37 rfl (lv_at hl 1 rfl) ?_
  refine k_lald (j := i) hx hb hK hP 3 0 rfl rfl (by omega) (by decide) d_M_product_38 ?_
  refine lv_lsub hx hb d_M_product_39 ?_
  refine lv_aload_n hx hb d_M_product_40 rfl (lv_at hl 0 rfl) ?_
  refine va_get (D := (dC, dI)) (ci := 1) (v := .ref aS) (C := R_M) (T := T_M) (N := 9) hx hb hts iT_M hown hK hP 0 rfl rfl 3 (by decide) (hts _ wd_39) (fun _ h9 => h9) rfl d_M_product_41 ?_
  refine lv_iload_n hx hb d_M_product_44 rfl (lv_at hl 3 rfl) ?_
  refine k_lald (j := k) hx hb hK hP 3 0 rfl rfl (by omega) (by decide) d_M_product_45 ?_
  refine lv_aload_n hx hb d_M_product_46 rfl (lv_at hl 0 rfl) ?_
  refine va_get (D := (dC, dI)) (ci := 1) (v := .ref aS) (C := R_M) (T := T_M) (N := 9) hx hb hts iT_M hown hK hP 0 rfl rfl 3 (by decide) (hts _ wd_39) (fun _ h9 => h9) rfl d_M_product_47 ?_
  refine lv_iload_n hx hb d_M_product_50 rfl (lv_at hl 1 rfl) ?_
  refine k_lald (j := i) hx hb hK hP 3 0 rfl rfl (by omega) (by decide) d_M_product_51 ?_
  refine lv_lsub hx hb d_M_product_52 ?_
  refine lv_lmul hx hb d_M_product_53 ?_
  refine lv_ladd hx hb d_M_product_54 ?_
  exact k_lret (v := (((mf j) - (mf i)) * ((mf k) - (mf i))) + (((ms j) - (ms i)) * ((ms k) - (ms i)))) hx hb hr hlocks () rfl hP hD hK hS [0, 1, 2, 3, 4, 5] (by decide) rfl d_M_product_55
/-- M_doubleArea -/
abbrev q_M_doubleArea (dC : Nat → ClassId) (dI : Nat → Nat → Nat) (cJ cI cZ : ClassId) (h : Nat) (aL : Nat) (aF : Nat) (aS : Nat) (aT : Nat) (aB : Nat) (ml : Nat → Int32) (n : Nat) (mf : Nat → Int64) (ms : Nat → Int64) (u : MixS) (i : Nat) (j : Nat) (k : Nat) (A : Nat → Prop) : Array Value → State → Outcome → State → Prop := va_Ql (fun (r : Int64) (_ : Unit) => r = areaF mf ms i j k) (kB (dC, dI) vwCl [(cJ, .long), (cI, .int), (cZ, .boolean)] A (fun (_ : Unit) => [(h, .inr (1, [.ref aL, .int (nI n), .ref aF, .ref aS, .ref aT, .long u.2.1, .ref aB, .long u.2.2.2.1, .int (zI u.2.2.2.2)])), (aL, .inl (cI, 4, .inl ml)), (aF, .inl (cJ, 5, .inr (.inl mf))), (aS, .inl (cJ, 5, .inr (.inl ms))), (aT, .inl (cJ, 4, .inr (.inl u.1))), (aB, .inl (cJ, 4, .inr (.inl u.2.2.1)))])) A
set_option maxHeartbeats 4000000 in
set_option maxRecDepth 100000 in
theorem k_M_doubleArea (l : Launch) (dC : Nat → ClassId) (dI : Nat → Nat → Nat) (cJ cI cZ : ClassId) (sz : Nat) (h : Nat) (aL : Nat) (aF : Nat) (aS : Nat) (aT : Nat) (aB : Nat) (ml : Nat → Int32) (n : Nat) (mf : Nat → Int64) (ms : Nat → Int64) (u : MixS) (i : Nat) (j : Nat) (k : Nat) (hi : i < 5) (hj : j < 5) (hk : k < 5) : Met l y_M_doubleArea w_M_doubleArea { frames := 0, cells := 0, slots := 0, locals := 0 } (kPc (dC, dI) vwCl [(cJ, .long), (cI, .int), (cZ, .boolean)] [(h, .inr (1, [.ref aL, .int (nI n), .ref aF, .ref aS, .ref aT, .long u.2.1, .ref aB, .long u.2.2.2.1, .int (zI u.2.2.2.2)])), (aL, .inl (cI, 4, .inl ml)), (aF, .inl (cJ, 5, .inr (.inl mf))), (aS, .inl (cJ, 5, .inr (.inl ms))), (aT, .inl (cJ, 4, .inr (.inl u.1))), (aB, .inl (cJ, 4, .inr (.inl u.2.2.1)))] sz [.ref h, .int (nI i), .int (nI j), .int (nI k)]) (q_M_doubleArea dC dI cJ cI cZ h aL aF aS aT aB ml n mf ms u i j k (va_A [(h, .inr (1, [.ref aL, .int (nI n), .ref aF, .ref aS, .ref aT, .long u.2.1, .ref aB, .long u.2.2.2.1, .int (zI u.2.2.2.2)])), (aL, .inl (cI, 4, .inl ml)), (aF, .inl (cJ, 5, .inr (.inl mf))), (aS, .inl (cJ, 5, .inr (.inl ms))), (aT, .inl (cJ, 4, .inr (.inl u.1))), (aB, .inl (cJ, 4, .inr (.inl u.2.2.1)))] sz)) 0 0 (va_A [(h, .inr (1, [.ref aL, .int (nI n), .ref aF, .ref aS, .ref aT, .long u.2.1, .ref aB, .long u.2.2.2.1, .int (zI u.2.2.2.2)])), (aL, .inl (cI, 4, .inl ml)), (aF, .inl (cJ, 5, .inr (.inl mf))), (aS, .inl (cJ, 5, .inr (.inl ms))), (aT, .inl (cJ, 4, .inr (.inl u.1))), (aB, .inl (cJ, 4, .inr (.inl u.2.2.1)))] sz) := by
  refine k_met (q_M_doubleArea dC dI cJ cI cZ h aL aF aS aT aB ml n mf ms u i j k) (by decide +kernel) rfl (Nat.le_of_ble_eq_true rfl) ?_
  intro p e s m below meth c A hx hb hr hml hown hts hlocks hin hA H hP hK hD hS ls hl
  have hl : lv_has ls 4 [(0, .ref h), (1, .int (nI i)), (2, .int (nI j)), (3, .int (nI k))] := hl
  have hown : s.vm.findClass R_M = some m.cls := hown
  have hts : ∀ wW ∈ kT, wW.before [.ref h, .int (nI i), .int (nI j), .int (nI k)].toArray s = true := fun wW hW => hts wW (List.mem_cons_of_mem _ hW)
  refine lv_aload_n hx hb d_M_doubleArea_0 rfl (lv_at hl 0 rfl) ?_
  refine va_get (D := (dC, dI)) (ci := 1) (v := .ref aF) (C := R_M) (T := T_M) (N := 9) hx hb hts iT_M hown hK hP 0 rfl rfl 2 (by decide) (hts _ wd_38) (fun _ h9 => h9) rfl d_M_doubleArea_1 ?_
  refine lv_iload_n hx hb d_M_doubleArea_4 rfl (lv_at hl 2 rfl) ?_
  refine k_lald (j := j) hx hb hK hP 2 0 rfl rfl (by omega) (by decide) d_M_doubleArea_5 ?_
  refine lv_aload_n hx hb d_M_doubleArea_6 rfl (lv_at hl 0 rfl) ?_
  refine va_get (D := (dC, dI)) (ci := 1) (v := .ref aF) (C := R_M) (T := T_M) (N := 9) hx hb hts iT_M hown hK hP 0 rfl rfl 2 (by decide) (hts _ wd_38) (fun _ h9 => h9) rfl d_M_doubleArea_7 ?_
  refine lv_iload_n hx hb d_M_doubleArea_10 rfl (lv_at hl 1 rfl) ?_
  refine k_lald (j := i) hx hb hK hP 2 0 rfl rfl (by omega) (by decide) d_M_doubleArea_11 ?_
  refine lv_lsub hx hb d_M_doubleArea_12 ?_
  refine lv_aload_n hx hb d_M_doubleArea_13 rfl (lv_at hl 0 rfl) ?_
  refine va_get (D := (dC, dI)) (ci := 1) (v := .ref aS) (C := R_M) (T := T_M) (N := 9) hx hb hts iT_M hown hK hP 0 rfl rfl 3 (by decide) (hts _ wd_39) (fun _ h9 => h9) rfl d_M_doubleArea_14 ?_
  refine lv_iload_n hx hb d_M_doubleArea_17 rfl (lv_at hl 3 rfl) ?_
  refine k_lald (j := k) hx hb hK hP 3 0 rfl rfl (by omega) (by decide) d_M_doubleArea_18 ?_
  refine lv_aload_n hx hb d_M_doubleArea_19 rfl (lv_at hl 0 rfl) ?_
  refine va_get (D := (dC, dI)) (ci := 1) (v := .ref aS) (C := R_M) (T := T_M) (N := 9) hx hb hts iT_M hown hK hP 0 rfl rfl 3 (by decide) (hts _ wd_39) (fun _ h9 => h9) rfl d_M_doubleArea_20 ?_
  refine lv_iload_n hx hb d_M_doubleArea_23 rfl (lv_at hl 1 rfl) ?_
  refine k_lald (j := i) hx hb hK hP 3 0 rfl rfl (by omega) (by decide) d_M_doubleArea_24 ?_
  refine lv_lsub hx hb d_M_doubleArea_25 ?_
  refine lv_lmul hx hb d_M_doubleArea_26 ?_
  refine lv_aload_n hx hb d_M_doubleArea_27 rfl (lv_at hl 0 rfl) ?_
  refine va_get (D := (dC, dI)) (ci := 1) (v := .ref aF) (C := R_M) (T := T_M) (N := 9) hx hb hts iT_M hown hK hP 0 rfl rfl 2 (by decide) (hts _ wd_38) (fun _ h9 => h9) rfl d_M_doubleArea_28 ?_
  refine lv_iload_n hx hb d_M_doubleArea_31 rfl (lv_at hl 3 rfl) ?_
  refine k_lald (j := k) hx hb hK hP 2 0 rfl rfl (by omega) (by decide) d_M_doubleArea_32 ?_
  refine lv_aload_n hx hb d_M_doubleArea_33 rfl (lv_at hl 0 rfl) ?_
  refine va_get (D := (dC, dI)) (ci := 1) (v := .ref aF) (C := R_M) (T := T_M) (N := 9) hx hb hts iT_M hown hK hP 0 rfl rfl 2 (by decide) (hts _ wd_38) (fun _ h9 => h9) rfl d_M_doubleArea_34 ?_
  refine lv_iload_n hx hb d_M_doubleArea_37 rfl (lv_at hl 1 rfl) ?_
  refine k_lald (j := i) hx hb hK hP 2 0 rfl rfl (by omega) (by decide) d_M_doubleArea_38 ?_
  refine lv_lsub hx hb d_M_doubleArea_39 ?_
  refine lv_aload_n hx hb d_M_doubleArea_40 rfl (lv_at hl 0 rfl) ?_
  refine va_get (D := (dC, dI)) (ci := 1) (v := .ref aS) (C := R_M) (T := T_M) (N := 9) hx hb hts iT_M hown hK hP 0 rfl rfl 3 (by decide) (hts _ wd_39) (fun _ h9 => h9) rfl d_M_doubleArea_41 ?_
  refine lv_iload_n hx hb d_M_doubleArea_44 rfl (lv_at hl 2 rfl) ?_
  refine k_lald (j := j) hx hb hK hP 3 0 rfl rfl (by omega) (by decide) d_M_doubleArea_45 ?_
  refine lv_aload_n hx hb d_M_doubleArea_46 rfl (lv_at hl 0 rfl) ?_
  refine va_get (D := (dC, dI)) (ci := 1) (v := .ref aS) (C := R_M) (T := T_M) (N := 9) hx hb hts iT_M hown hK hP 0 rfl rfl 3 (by decide) (hts _ wd_39) (fun _ h9 => h9) rfl d_M_doubleArea_47 ?_
  refine lv_iload_n hx hb d_M_doubleArea_50 rfl (lv_at hl 1 rfl) ?_
  refine k_lald (j := i) hx hb hK hP 3 0 rfl rfl (by omega) (by decide) d_M_doubleArea_51 ?_
  refine lv_lsub hx hb d_M_doubleArea_52 ?_
  refine lv_lmul hx hb d_M_doubleArea_53 ?_
  refine lv_lsub hx hb d_M_doubleArea_54 ?_
  exact k_lret (v := (((mf j) - (mf i)) * ((ms k) - (ms i))) - (((mf k) - (mf i)) * ((ms j) - (ms i)))) hx hb hr hlocks () rfl hP hD hK hS [0, 1, 2, 3, 4, 5] (by decide) rfl d_M_doubleArea_55
/-- M_startTrial -/
abbrev q_M_startTrial (dC : Nat → ClassId) (dI : Nat → Nat → Nat) (cJ cI cZ : ClassId) (h : Nat) (aL : Nat) (aF : Nat) (aS : Nat) (aT : Nat) (aB : Nat) (ml : Nat → Int32) (n : Nat) (mf : Nat → Int64) (ms : Nat → Int64) (u : MixS) (x : Int64) (A : Nat → Prop) : Array Value → State → Outcome → State → Prop := va_Qv (fun (_ : Unit) => True) (kB (dC, dI) vwCl [(cJ, .long), (cI, .int), (cZ, .boolean)] A (fun (_ : Unit) => [(h, .inr (1, [.ref aL, .int (nI n), .ref aF, .ref aS, .ref aT, .long ((stF u x).2.1), .ref aB, .long ((stF u x).2.2.2.1), .int (zI ((stF u x).2.2.2.2))])), (aL, .inl (cI, 4, .inl ml)), (aF, .inl (cJ, 5, .inr (.inl mf))), (aS, .inl (cJ, 5, .inr (.inl ms))), (aT, .inl (cJ, 4, .inr (.inl ((stF u x).1)))), (aB, .inl (cJ, 4, .inr (.inl ((stF u x).2.2.1))))])) A
set_option maxHeartbeats 4000000 in
set_option maxRecDepth 100000 in
theorem k_M_startTrial (l : Launch) (dC : Nat → ClassId) (dI : Nat → Nat → Nat) (cJ cI cZ : ClassId) (sz : Nat) (h : Nat) (aL : Nat) (aF : Nat) (aS : Nat) (aT : Nat) (aB : Nat) (ml : Nat → Int32) (n : Nat) (mf : Nat → Int64) (ms : Nat → Int64) (u : MixS) (x : Int64)  : Met l y_M_startTrial w_M_startTrial { frames := 0, cells := 0, slots := 0, locals := 0 } (kPc (dC, dI) vwCl [(cJ, .long), (cI, .int), (cZ, .boolean)] [(h, .inr (1, [.ref aL, .int (nI n), .ref aF, .ref aS, .ref aT, .long u.2.1, .ref aB, .long u.2.2.2.1, .int (zI u.2.2.2.2)])), (aL, .inl (cI, 4, .inl ml)), (aF, .inl (cJ, 5, .inr (.inl mf))), (aS, .inl (cJ, 5, .inr (.inl ms))), (aT, .inl (cJ, 4, .inr (.inl u.1))), (aB, .inl (cJ, 4, .inr (.inl u.2.2.1)))] sz [.ref h, .long x]) (q_M_startTrial dC dI cJ cI cZ h aL aF aS aT aB ml n mf ms u x (va_A [(h, .inr (1, [.ref aL, .int (nI n), .ref aF, .ref aS, .ref aT, .long u.2.1, .ref aB, .long u.2.2.2.1, .int (zI u.2.2.2.2)])), (aL, .inl (cI, 4, .inl ml)), (aF, .inl (cJ, 5, .inr (.inl mf))), (aS, .inl (cJ, 5, .inr (.inl ms))), (aT, .inl (cJ, 4, .inr (.inl u.1))), (aB, .inl (cJ, 4, .inr (.inl u.2.2.1)))] sz)) 0 0 (va_A [(h, .inr (1, [.ref aL, .int (nI n), .ref aF, .ref aS, .ref aT, .long u.2.1, .ref aB, .long u.2.2.2.1, .int (zI u.2.2.2.2)])), (aL, .inl (cI, 4, .inl ml)), (aF, .inl (cJ, 5, .inr (.inl mf))), (aS, .inl (cJ, 5, .inr (.inl ms))), (aT, .inl (cJ, 4, .inr (.inl u.1))), (aB, .inl (cJ, 4, .inr (.inl u.2.2.1)))] sz) := by
  refine k_met (q_M_startTrial dC dI cJ cI cZ h aL aF aS aT aB ml n mf ms u x) (by decide +kernel) rfl (Nat.le_of_ble_eq_true rfl) ?_
  intro p e s m below meth c A hx hb hr hml hown hts hlocks hin hA H hP hK hD hS ls hl
  have hl : lv_has ls 4 [(0, .ref h), (1, .long x)] := hl
  have hown : s.vm.findClass R_M = some m.cls := hown
  have hts : ∀ wW ∈ kT, wW.before [.ref h, .long x].toArray s = true := fun wW hW => hts wW (List.mem_cons_of_mem _ hW)
  refine lv_aload_n hx hb d_M_startTrial_0 rfl (lv_at hl 0 rfl) ?_
  refine lv_lload_n hx hb d_M_startTrial_1 rfl (lv_at hl 1 rfl) ?_
  refine va_put (D := (dC, dI)) (ci := 1) (v := .long x) (ty := .long) (C := R_M) (T := T_M) (N := 9) hx hb hts iT_M t_M t_M_ok n_M hown hK hP hD hS 0 rfl rfl 5 (by decide) (hts _ wd_41) (fun _ h9 => h9) rfl (by decide +kernel) rfl rfl (Nat.le_of_ble_eq_true rfl) d_M_startTrial_2 (fun H locs hP hD hS => ?_)
  have hP : va_P (dC, dI) vwCl [(h, .inr (1, [.ref aL, .int (nI n), .ref aF, .ref aS, .ref aT, .long x, .ref aB, .long u.2.2.2.1, .int (zI u.2.2.2.2)])), (aL, .inl (cI, 4, .inl ml)), (aF, .inl (cJ, 5, .inr (.inl mf))), (aS, .inl (cJ, 5, .inr (.inl ms))), (aT, .inl (cJ, 4, .inr (.inl u.1))), (aB, .inl (cJ, 4, .inr (.inl u.2.2.1)))] H := hP
  have hD : va_D A [(h, .inr (1, [.ref aL, .int (nI n), .ref aF, .ref aS, .ref aT, .long x, .ref aB, .long u.2.2.2.1, .int (zI u.2.2.2.2)])), (aL, .inl (cI, 4, .inl ml)), (aF, .inl (cJ, 5, .inr (.inl mf))), (aS, .inl (cJ, 5, .inr (.inl ms))), (aT, .inl (cJ, 4, .inr (.inl u.1))), (aB, .inl (cJ, 4, .inr (.inl u.2.2.1)))] := hD
  refine lv_iconst (v := nI 0) hx hb d_M_startTrial_5 (by decide) ?_
  refine lv_istore_n (lv' := [(3, .int (nI 0)), (0, .ref h), (1, .long x)]) hx hb d_M_startTrial_6 rfl hl (by decide) rfl (fun ls hl => ?_)
  have hP : va_P (dC, dI) vwCl [(h, .inr (1, [.ref aL, .int (nI n), .ref aF, .ref aS, .ref aT, .long ((u.1, x, u.2.2).2.1), .ref aB, .long ((u.1, x, u.2.2).2.2.2.1), .int (zI ((u.1, x, u.2.2).2.2.2.2))])), (aL, .inl (cI, 4, .inl ml)), (aF, .inl (cJ, 5, .inr (.inl mf))), (aS, .inl (cJ, 5, .inr (.inl ms))), (aT, .inl (cJ, 4, .inr (.inl ((u.1, x, u.2.2).1)))), (aB, .inl (cJ, 4, .inr (.inl ((u.1, x, u.2.2).2.2.1))))] H := hP
  have hD : va_D A [(h, .inr (1, [.ref aL, .int (nI n), .ref aF, .ref aS, .ref aT, .long ((u.1, x, u.2.2).2.1), .ref aB, .long ((u.1, x, u.2.2).2.2.2.1), .int (zI ((u.1, x, u.2.2).2.2.2.2))])), (aL, .inl (cI, 4, .inl ml)), (aF, .inl (cJ, 5, .inr (.inl mf))), (aS, .inl (cJ, 5, .inr (.inl ms))), (aT, .inl (cJ, 4, .inr (.inl ((u.1, x, u.2.2).1)))), (aB, .inl (cJ, 4, .inr (.inl ((u.1, x, u.2.2).2.2.1))))] := hD
  have hP : va_P (dC, dI) vwCl [(h, .inr (1, [.ref aL, .int (nI n), .ref aF, .ref aS, .ref aT, .long ((u.1, x, u.2.2).2.1), .ref aB, .long ((u.1, x, u.2.2).2.2.2.1), .int (zI ((u.1, x, u.2.2).2.2.2.2))])), (aL, .inl (cI, 4, .inl ml)), (aF, .inl (cJ, 5, .inr (.inl mf))), (aS, .inl (cJ, 5, .inr (.inl ms))), (aT, .inl (cJ, 4, .inr (.inl ((zer 0 u.1, x, u.2.2).1)))), (aB, .inl (cJ, 4, .inr (.inl ((u.1, x, u.2.2).2.2.1))))] H := by rw [show (zer 0 u.1, x, u.2.2).1 = u.1 from zer_0 u.1]; exact hP
  have hD : va_D A [(h, .inr (1, [.ref aL, .int (nI n), .ref aF, .ref aS, .ref aT, .long ((u.1, x, u.2.2).2.1), .ref aB, .long ((u.1, x, u.2.2).2.2.2.1), .int (zI ((u.1, x, u.2.2).2.2.2.2))])), (aL, .inl (cI, 4, .inl ml)), (aF, .inl (cJ, 5, .inr (.inl mf))), (aS, .inl (cJ, 5, .inr (.inl ms))), (aT, .inl (cJ, 4, .inr (.inl ((zer 0 u.1, x, u.2.2).1)))), (aB, .inl (cJ, 4, .inr (.inl ((u.1, x, u.2.2).2.2.1))))] := by rw [show (zer 0 u.1, x, u.2.2).1 = u.1 from zer_0 u.1]; exact hD
  have hP : va_P (dC, dI) vwCl [(h, .inr (1, [.ref aL, .int (nI n), .ref aF, .ref aS, .ref aT, .long ((zer 0 u.1, x, u.2.2).2.1), .ref aB, .long ((zer 0 u.1, x, u.2.2).2.2.2.1), .int (zI ((zer 0 u.1, x, u.2.2).2.2.2.2))])), (aL, .inl (cI, 4, .inl ml)), (aF, .inl (cJ, 5, .inr (.inl mf))), (aS, .inl (cJ, 5, .inr (.inl ms))), (aT, .inl (cJ, 4, .inr (.inl ((zer 0 u.1, x, u.2.2).1)))), (aB, .inl (cJ, 4, .inr (.inl ((zer 0 u.1, x, u.2.2).2.2.1))))] H := hP
  have hD : va_D A [(h, .inr (1, [.ref aL, .int (nI n), .ref aF, .ref aS, .ref aT, .long ((zer 0 u.1, x, u.2.2).2.1), .ref aB, .long ((zer 0 u.1, x, u.2.2).2.2.2.1), .int (zI ((zer 0 u.1, x, u.2.2).2.2.2.2))])), (aL, .inl (cI, 4, .inl ml)), (aF, .inl (cJ, 5, .inr (.inl mf))), (aS, .inl (cJ, 5, .inr (.inl ms))), (aT, .inl (cJ, 4, .inr (.inl ((zer 0 u.1, x, u.2.2).1)))), (aB, .inl (cJ, 4, .inr (.inl ((zer 0 u.1, x, u.2.2).2.2.1))))] := hD
  have loop_7 : ∀ (fu_7 : Nat) (i : Nat) (hi : i ≤ 4) (hfu_7 : 5 ≤ i + fu_7) (H : Heap) (locs : List Loc) (ls : Array Slot), va_P (dC, dI) vwCl [(h, .inr (1, [.ref aL, .int (nI n), .ref aF, .ref aS, .ref aT, .long ((zer i u.1, x, u.2.2).2.1), .ref aB, .long ((zer i u.1, x, u.2.2).2.2.2.1), .int (zI ((zer i u.1, x, u.2.2).2.2.2.2))])), (aL, .inl (cI, 4, .inl ml)), (aF, .inl (cJ, 5, .inr (.inl mf))), (aS, .inl (cJ, 5, .inr (.inl ms))), (aT, .inl (cJ, 4, .inr (.inl ((zer i u.1, x, u.2.2).1)))), (aB, .inl (cJ, 4, .inr (.inl ((zer i u.1, x, u.2.2).2.2.1))))] H → va_D A [(h, .inr (1, [.ref aL, .int (nI n), .ref aF, .ref aS, .ref aT, .long ((zer i u.1, x, u.2.2).2.1), .ref aB, .long ((zer i u.1, x, u.2.2).2.2.2.1), .int (zI ((zer i u.1, x, u.2.2).2.2.2.2))])), (aL, .inl (cI, 4, .inl ml)), (aF, .inl (cJ, 5, .inr (.inl mf))), (aS, .inl (cJ, 5, .inr (.inl ms))), (aT, .inl (cJ, 4, .inr (.inl ((zer i u.1, x, u.2.2).1)))), (aB, .inl (cJ, 4, .inr (.inl ((zer i u.1, x, u.2.2).2.2.1))))] → va_S A s.heap H locs → lv_has ls 4 [(0, .ref h), (1, .long x), (3, .int (nI i))] → W p l e { frames := 0, cells := 0, slots := 0, locals := 0 } s m [.ref h, .long x].toArray below meth c H locs 0 0 (MQ below (q_M_startTrial dC dI cJ cI cZ h aL aF aS aT aB ml n mf ms u x A) [.ref h, .long x].toArray s 0 0 A) (F0 m 7 ls []) := by
    intro fu_7
    induction fu_7 with
    | zero =>
      intro i hi hfu_7 H locs ls hP hD hS hl
      exact absurd hfu_7 (by omega)
    | succ fu_7 ih_7 =>
      intro i hi hfu_7 H locs ls hP hD hS hl
      refine lv_iload_n hx hb d_M_startTrial_7 rfl (lv_at hl 2 rfl) ?_
      refine lv_iconst (v := nI 4) hx hb d_M_startTrial_8 (by decide) ?_
      refine k_nge (tgt := 25) hx hb d_M_startTrial_9 (by decide) (by omega) (by omega) (fun c_9 => ?_) (fun c_9 => ?_)
      · obtain rfl : i = 4 := by omega
        exact k_vret hx hb hr hlocks () trivial hP hD hK hS [0, 1, 2, 3, 4, 5] (by decide) rfl d_M_startTrial_25
      · refine lv_aload_n hx hb d_M_startTrial_12 rfl (lv_at hl 0 rfl) ?_
        refine va_get (D := (dC, dI)) (ci := 1) (v := .ref aT) (C := R_M) (T := T_M) (N := 9) hx hb hts iT_M hown hK hP 0 rfl rfl 4 (by decide) (hts _ wd_40) (fun _ h9 => h9) rfl d_M_startTrial_13 ?_
        refine lv_iload_n hx hb d_M_startTrial_16 rfl (lv_at hl 2 rfl) ?_
        refine lv_lconst (v := 0) hx hb d_M_startTrial_17 (by decide) ?_
        refine k_last (j := i) hx hb hK hP hD hS 4 0 rfl rfl (by omega) (by decide) d_M_startTrial_18 (fun H locs hP hD hS => ?_)
        have ef_18 : vp_updL ((zer i u.1, x, u.2.2).1) i 0 = (zer (i + 1) u.1, x, u.2.2).1 := zer_step u.1 i
        rw [ef_18] at hP hD
        have hP : va_P (dC, dI) vwCl [(h, .inr (1, [.ref aL, .int (nI n), .ref aF, .ref aS, .ref aT, .long ((zer i u.1, x, u.2.2).2.1), .ref aB, .long ((zer i u.1, x, u.2.2).2.2.2.1), .int (zI ((zer i u.1, x, u.2.2).2.2.2.2))])), (aL, .inl (cI, 4, .inl ml)), (aF, .inl (cJ, 5, .inr (.inl mf))), (aS, .inl (cJ, 5, .inr (.inl ms))), (aT, .inl (cJ, 4, .inr (.inl ((zer (i + 1) u.1, x, u.2.2).1)))), (aB, .inl (cJ, 4, .inr (.inl ((zer i u.1, x, u.2.2).2.2.1))))] H := hP
        have hD : va_D A [(h, .inr (1, [.ref aL, .int (nI n), .ref aF, .ref aS, .ref aT, .long ((zer i u.1, x, u.2.2).2.1), .ref aB, .long ((zer i u.1, x, u.2.2).2.2.2.1), .int (zI ((zer i u.1, x, u.2.2).2.2.2.2))])), (aL, .inl (cI, 4, .inl ml)), (aF, .inl (cJ, 5, .inr (.inl mf))), (aS, .inl (cJ, 5, .inr (.inl ms))), (aT, .inl (cJ, 4, .inr (.inl ((zer (i + 1) u.1, x, u.2.2).1)))), (aB, .inl (cJ, 4, .inr (.inl ((zer i u.1, x, u.2.2).2.2.1))))] := hD
        have hP : va_P (dC, dI) vwCl [(h, .inr (1, [.ref aL, .int (nI n), .ref aF, .ref aS, .ref aT, .long ((zer (i + 1) u.1, x, u.2.2).2.1), .ref aB, .long ((zer (i + 1) u.1, x, u.2.2).2.2.2.1), .int (zI ((zer (i + 1) u.1, x, u.2.2).2.2.2.2))])), (aL, .inl (cI, 4, .inl ml)), (aF, .inl (cJ, 5, .inr (.inl mf))), (aS, .inl (cJ, 5, .inr (.inl ms))), (aT, .inl (cJ, 4, .inr (.inl ((zer (i + 1) u.1, x, u.2.2).1)))), (aB, .inl (cJ, 4, .inr (.inl ((zer (i + 1) u.1, x, u.2.2).2.2.1))))] H := hP
        have hD : va_D A [(h, .inr (1, [.ref aL, .int (nI n), .ref aF, .ref aS, .ref aT, .long ((zer (i + 1) u.1, x, u.2.2).2.1), .ref aB, .long ((zer (i + 1) u.1, x, u.2.2).2.2.2.1), .int (zI ((zer (i + 1) u.1, x, u.2.2).2.2.2.2))])), (aL, .inl (cI, 4, .inl ml)), (aF, .inl (cJ, 5, .inr (.inl mf))), (aS, .inl (cJ, 5, .inr (.inl ms))), (aT, .inl (cJ, 4, .inr (.inl ((zer (i + 1) u.1, x, u.2.2).1)))), (aB, .inl (cJ, 4, .inr (.inl ((zer (i + 1) u.1, x, u.2.2).2.2.1))))] := hD
        refine lv_iinc (v := nI (i + 1)) (lv' := [(3, .int (nI (i + 1))), (0, .ref h), (1, .long x)]) hx hb d_M_startTrial_19 hl (k := 2) rfl (nI_add i 1) (by decide) rfl (fun ls hl => ?_)
        refine lv_goto (tgt := 7) hx hb d_M_startTrial_22 (by decide) ?_
        exact ih_7 (i + 1) (by omega) (by omega) _ _ _ hP hD hS (lv_sub hl [1, 2, 0] rfl)
  exact loop_7 5 0 (by omega) (by omega) _ _ _ hP hD hS (lv_sub hl [1, 2, 0] rfl)
/-- M_isTrialPossible -/
abbrev q_M_isTrialPossible (dC : Nat → ClassId) (dI : Nat → Nat → Nat) (cJ cI cZ : ClassId) (h : Nat) (aL : Nat) (aF : Nat) (aS : Nat) (aT : Nat) (aB : Nat) (ml : Nat → Int32) (n : Nat) (mf : Nat → Int64) (ms : Nat → Int64) (u : MixS) (A : Nat → Prop) : Array Value → State → Outcome → State → Prop := va_Qi (fun (r : Int32) (_ : Unit) => r = zI (posB u.1 n)) (kB (dC, dI) vwCl [(cJ, .long), (cI, .int), (cZ, .boolean)] A (fun (_ : Unit) => [(h, .inr (1, [.ref aL, .int (nI n), .ref aF, .ref aS, .ref aT, .long u.2.1, .ref aB, .long u.2.2.2.1, .int (zI u.2.2.2.2)])), (aL, .inl (cI, 4, .inl ml)), (aF, .inl (cJ, 5, .inr (.inl mf))), (aS, .inl (cJ, 5, .inr (.inl ms))), (aT, .inl (cJ, 4, .inr (.inl u.1))), (aB, .inl (cJ, 4, .inr (.inl u.2.2.1)))])) A
set_option maxHeartbeats 4000000 in
set_option maxRecDepth 100000 in
theorem k_M_isTrialPossible (l : Launch) (dC : Nat → ClassId) (dI : Nat → Nat → Nat) (cJ cI cZ : ClassId) (sz : Nat) (h : Nat) (aL : Nat) (aF : Nat) (aS : Nat) (aT : Nat) (aB : Nat) (ml : Nat → Int32) (n : Nat) (mf : Nat → Int64) (ms : Nat → Int64) (u : MixS) (hn : n ≤ 4) : Met l y_M_isTrialPossible w_M_isTrialPossible { frames := 0, cells := 0, slots := 0, locals := 0 } (kPc (dC, dI) vwCl [(cJ, .long), (cI, .int), (cZ, .boolean)] [(h, .inr (1, [.ref aL, .int (nI n), .ref aF, .ref aS, .ref aT, .long u.2.1, .ref aB, .long u.2.2.2.1, .int (zI u.2.2.2.2)])), (aL, .inl (cI, 4, .inl ml)), (aF, .inl (cJ, 5, .inr (.inl mf))), (aS, .inl (cJ, 5, .inr (.inl ms))), (aT, .inl (cJ, 4, .inr (.inl u.1))), (aB, .inl (cJ, 4, .inr (.inl u.2.2.1)))] sz [.ref h]) (q_M_isTrialPossible dC dI cJ cI cZ h aL aF aS aT aB ml n mf ms u (va_A [(h, .inr (1, [.ref aL, .int (nI n), .ref aF, .ref aS, .ref aT, .long u.2.1, .ref aB, .long u.2.2.2.1, .int (zI u.2.2.2.2)])), (aL, .inl (cI, 4, .inl ml)), (aF, .inl (cJ, 5, .inr (.inl mf))), (aS, .inl (cJ, 5, .inr (.inl ms))), (aT, .inl (cJ, 4, .inr (.inl u.1))), (aB, .inl (cJ, 4, .inr (.inl u.2.2.1)))] sz)) 0 0 (va_A [(h, .inr (1, [.ref aL, .int (nI n), .ref aF, .ref aS, .ref aT, .long u.2.1, .ref aB, .long u.2.2.2.1, .int (zI u.2.2.2.2)])), (aL, .inl (cI, 4, .inl ml)), (aF, .inl (cJ, 5, .inr (.inl mf))), (aS, .inl (cJ, 5, .inr (.inl ms))), (aT, .inl (cJ, 4, .inr (.inl u.1))), (aB, .inl (cJ, 4, .inr (.inl u.2.2.1)))] sz) := by
  refine k_met (q_M_isTrialPossible dC dI cJ cI cZ h aL aF aS aT aB ml n mf ms u) (by decide +kernel) rfl (Nat.le_of_ble_eq_true rfl) ?_
  intro p e s m below meth c A hx hb hr hml hown hts hlocks hin hA H hP hK hD hS ls hl
  have hl : lv_has ls 2 [(0, .ref h)] := hl
  have hown : s.vm.findClass R_M = some m.cls := hown
  have hts : ∀ wW ∈ kT, wW.before [.ref h].toArray s = true := fun wW hW => hts wW (List.mem_cons_of_mem _ hW)
  refine lv_iconst (v := nI 0) hx hb d_M_isTrialPossible_0 (by decide) ?_
  refine lv_istore_n (lv' := [(1, .int (nI 0)), (0, .ref h)]) hx hb d_M_isTrialPossible_1 rfl hl (by decide) rfl (fun ls hl => ?_)
  have loop_2 : ∀ (fu_2 : Nat) (i : Nat) (hi : i ≤ n) (hv : fdN (fun j => decide (u.1 j < 0)) (n - i) i = fd (fun j => decide (u.1 j < 0)) n) (hfu_2 : n + 1 ≤ i + fu_2) (H : Heap) (locs : List Loc) (ls : Array Slot), va_P (dC, dI) vwCl [(h, .inr (1, [.ref aL, .int (nI n), .ref aF, .ref aS, .ref aT, .long u.2.1, .ref aB, .long u.2.2.2.1, .int (zI u.2.2.2.2)])), (aL, .inl (cI, 4, .inl ml)), (aF, .inl (cJ, 5, .inr (.inl mf))), (aS, .inl (cJ, 5, .inr (.inl ms))), (aT, .inl (cJ, 4, .inr (.inl u.1))), (aB, .inl (cJ, 4, .inr (.inl u.2.2.1)))] H → va_D A [(h, .inr (1, [.ref aL, .int (nI n), .ref aF, .ref aS, .ref aT, .long u.2.1, .ref aB, .long u.2.2.2.1, .int (zI u.2.2.2.2)])), (aL, .inl (cI, 4, .inl ml)), (aF, .inl (cJ, 5, .inr (.inl mf))), (aS, .inl (cJ, 5, .inr (.inl ms))), (aT, .inl (cJ, 4, .inr (.inl u.1))), (aB, .inl (cJ, 4, .inr (.inl u.2.2.1)))] → va_S A s.heap H locs → lv_has ls 2 [(0, .ref h), (1, .int (nI i))] → W p l e { frames := 0, cells := 0, slots := 0, locals := 0 } s m [.ref h].toArray below meth c H locs 0 0 (MQ below (q_M_isTrialPossible dC dI cJ cI cZ h aL aF aS aT aB ml n mf ms u A) [.ref h].toArray s 0 0 A) (F0 m 2 ls []) := by
    intro fu_2
    induction fu_2 with
    | zero =>
      intro i hi hv hfu_2 H locs ls hP hD hS hl
      exact absurd hfu_2 (by omega)
    | succ fu_2 ih_2 =>
      intro i hi hv hfu_2 H locs ls hP hD hS hl
      refine lv_iload_n hx hb d_M_isTrialPossible_2 rfl (lv_at hl 1 rfl) ?_
      refine lv_aload_n hx hb d_M_isTrialPossible_3 rfl (lv_at hl 0 rfl) ?_
      refine va_get (D := (dC, dI)) (ci := 1) (v := .int (nI n)) (C := R_M) (T := T_M) (N := 9) hx hb hts iT_M hown hK hP 0 rfl rfl 1 (by decide) (hts _ wd_37) (fun _ h9 => h9) rfl d_M_isTrialPossible_4 ?_
      refine k_nge (tgt := 29) hx hb d_M_isTrialPossible_7 (by decide) (by omega) (by omega) (fun c_7 => ?_) (fun c_7 => ?_)
      · refine lv_iconst (v := nI 1) hx hb d_M_isTrialPossible_29 (by decide) ?_
        exact k_zret (v := nI 1) hx hb hr hlocks rfl () (by unfold posB; rw [← hv, fdN_end (P := fun j => decide (u.1 j < 0)) c_7, decide_eq_true (by omega)]; rfl) hP hD hK hS [0, 1, 2, 3, 4, 5] (by decide) rfl d_M_isTrialPossible_30
      · refine lv_aload_n hx hb d_M_isTrialPossible_10 rfl (lv_at hl 0 rfl) ?_
        refine va_get (D := (dC, dI)) (ci := 1) (v := .ref aT) (C := R_M) (T := T_M) (N := 9) hx hb hts iT_M hown hK hP 0 rfl rfl 4 (by decide) (hts _ wd_40) (fun _ h9 => h9) rfl d_M_isTrialPossible_11 ?_
        refine lv_iload_n hx hb d_M_isTrialPossible_14 rfl (lv_at hl 1 rfl) ?_
        refine k_lald (j := i) hx hb hK hP 4 0 rfl rfl (by omega) (by decide) d_M_isTrialPossible_15 ?_
        refine lv_lconst (v := 0) hx hb d_M_isTrialPossible_16 (by decide) ?_
        refine k_jge (tgt := 23) hx hb d_M_isTrialPossible_17 d_M_isTrialPossible_18 (by decide) (fun c_17 => ?_) (fun c_17 => ?_)
        · refine lv_iinc (v := nI (i + 1)) (lv' := [(1, .int (nI (i + 1))), (0, .ref h)]) hx hb d_M_isTrialPossible_23 hl (k := 1) rfl (nI_add i 1) (by decide) rfl (fun ls hl => ?_)
          refine lv_goto (tgt := 2) hx hb d_M_isTrialPossible_26 (by decide) ?_
          exact ih_2 (i + 1) (by omega) ((fdN_go (P := fun j => decide (u.1 j < 0)) c_7 (decide_eq_false (Int64.not_lt.mpr c_17))).symm.trans hv) (by omega) _ _ _ hP hD hS (lv_sub hl [1, 0] rfl)
        · refine lv_iconst (v := nI 0) hx hb d_M_isTrialPossible_21 (by decide) ?_
          exact k_zret (v := nI 0) hx hb hr hlocks rfl () (by unfold posB; rw [← hv, fdN_hit (P := fun j => decide (u.1 j < 0)) c_7 (decide_eq_true c_17), decide_eq_false (by omega)]; rfl) hP hD hK hS [0, 1, 2, 3, 4, 5] (by decide) rfl d_M_isTrialPossible_22
  exact loop_2 (n + 1) 0 (by omega) rfl (by omega) _ _ _ hP hD hS (lv_sub hl [1, 0] rfl)
/-- M_isTrialBetter -/
abbrev q_M_isTrialBetter (dC : Nat → ClassId) (dI : Nat → Nat → Nat) (cJ cI cZ : ClassId) (h : Nat) (aL : Nat) (aF : Nat) (aS : Nat) (aT : Nat) (aB : Nat) (ml : Nat → Int32) (n : Nat) (mf : Nat → Int64) (ms : Nat → Int64) (u : MixS) (A : Nat → Prop) : Array Value → State → Outcome → State → Prop := va_Qi (fun (r : Int32) (_ : Unit) => r = zI (btB u.1 u.2.1 u.2.2.1 u.2.2.2.1 n)) (kB (dC, dI) vwCl [(cJ, .long), (cI, .int), (cZ, .boolean)] A (fun (_ : Unit) => [(h, .inr (1, [.ref aL, .int (nI n), .ref aF, .ref aS, .ref aT, .long u.2.1, .ref aB, .long u.2.2.2.1, .int (zI u.2.2.2.2)])), (aL, .inl (cI, 4, .inl ml)), (aF, .inl (cJ, 5, .inr (.inl mf))), (aS, .inl (cJ, 5, .inr (.inl ms))), (aT, .inl (cJ, 4, .inr (.inl u.1))), (aB, .inl (cJ, 4, .inr (.inl u.2.2.1)))])) A
set_option maxHeartbeats 4000000 in
set_option maxRecDepth 100000 in
theorem k_M_isTrialBetter (l : Launch) (dC : Nat → ClassId) (dI : Nat → Nat → Nat) (cJ cI cZ : ClassId) (sz : Nat) (h : Nat) (aL : Nat) (aF : Nat) (aS : Nat) (aT : Nat) (aB : Nat) (ml : Nat → Int32) (n : Nat) (mf : Nat → Int64) (ms : Nat → Int64) (u : MixS) (hn : n ≤ 4) : Met l y_M_isTrialBetter w_M_isTrialBetter { frames := 0, cells := 0, slots := 0, locals := 0 } (kPc (dC, dI) vwCl [(cJ, .long), (cI, .int), (cZ, .boolean)] [(h, .inr (1, [.ref aL, .int (nI n), .ref aF, .ref aS, .ref aT, .long u.2.1, .ref aB, .long u.2.2.2.1, .int (zI u.2.2.2.2)])), (aL, .inl (cI, 4, .inl ml)), (aF, .inl (cJ, 5, .inr (.inl mf))), (aS, .inl (cJ, 5, .inr (.inl ms))), (aT, .inl (cJ, 4, .inr (.inl u.1))), (aB, .inl (cJ, 4, .inr (.inl u.2.2.1)))] sz [.ref h]) (q_M_isTrialBetter dC dI cJ cI cZ h aL aF aS aT aB ml n mf ms u (va_A [(h, .inr (1, [.ref aL, .int (nI n), .ref aF, .ref aS, .ref aT, .long u.2.1, .ref aB, .long u.2.2.2.1, .int (zI u.2.2.2.2)])), (aL, .inl (cI, 4, .inl ml)), (aF, .inl (cJ, 5, .inr (.inl mf))), (aS, .inl (cJ, 5, .inr (.inl ms))), (aT, .inl (cJ, 4, .inr (.inl u.1))), (aB, .inl (cJ, 4, .inr (.inl u.2.2.1)))] sz)) 0 0 (va_A [(h, .inr (1, [.ref aL, .int (nI n), .ref aF, .ref aS, .ref aT, .long u.2.1, .ref aB, .long u.2.2.2.1, .int (zI u.2.2.2.2)])), (aL, .inl (cI, 4, .inl ml)), (aF, .inl (cJ, 5, .inr (.inl mf))), (aS, .inl (cJ, 5, .inr (.inl ms))), (aT, .inl (cJ, 4, .inr (.inl u.1))), (aB, .inl (cJ, 4, .inr (.inl u.2.2.1)))] sz) := by
  refine k_met (q_M_isTrialBetter dC dI cJ cI cZ h aL aF aS aT aB ml n mf ms u) (by decide +kernel) rfl (Nat.le_of_ble_eq_true rfl) ?_
  intro p e s m below meth c A hx hb hr hml hown hts hlocks hin hA H hP hK hD hS ls hl
  have hl : lv_has ls 6 [(0, .ref h)] := hl
  have hown : s.vm.findClass R_M = some m.cls := hown
  have hts : ∀ wW ∈ kT, wW.before [.ref h].toArray s = true := fun wW hW => hts wW (List.mem_cons_of_mem _ hW)
  refine lv_iconst (v := nI 0) hx hb d_M_isTrialBetter_0 (by decide) ?_
  refine lv_istore_n (lv' := [(1, .int (nI 0)), (0, .ref h)]) hx hb d_M_isTrialBetter_1 rfl hl (by decide) rfl (fun ls hl => ?_)
  have loop_2 : ∀ (fu_2 : Nat) (i : Nat) (hi : i ≤ n) (hv : fdN (fun j => decide (¬ u.1 j * u.2.2.2.1 = u.2.2.1 j * u.2.1)) (n - i) i = dfN u.1 u.2.1 u.2.2.1 u.2.2.2.1 n) (hfu_2 : n + 1 ≤ i + fu_2) (H : Heap) (locs : List Loc) (ls : Array Slot), va_P (dC, dI) vwCl [(h, .inr (1, [.ref aL, .int (nI n), .ref aF, .ref aS, .ref aT, .long u.2.1, .ref aB, .long u.2.2.2.1, .int (zI u.2.2.2.2)])), (aL, .inl (cI, 4, .inl ml)), (aF, .inl (cJ, 5, .inr (.inl mf))), (aS, .inl (cJ, 5, .inr (.inl ms))), (aT, .inl (cJ, 4, .inr (.inl u.1))), (aB, .inl (cJ, 4, .inr (.inl u.2.2.1)))] H → va_D A [(h, .inr (1, [.ref aL, .int (nI n), .ref aF, .ref aS, .ref aT, .long u.2.1, .ref aB, .long u.2.2.2.1, .int (zI u.2.2.2.2)])), (aL, .inl (cI, 4, .inl ml)), (aF, .inl (cJ, 5, .inr (.inl mf))), (aS, .inl (cJ, 5, .inr (.inl ms))), (aT, .inl (cJ, 4, .inr (.inl u.1))), (aB, .inl (cJ, 4, .inr (.inl u.2.2.1)))] → va_S A s.heap H locs → lv_has ls 6 [(0, .ref h), (1, .int (nI i))] → W p l e { frames := 0, cells := 0, slots := 0, locals := 0 } s m [.ref h].toArray below meth c H locs 0 0 (MQ below (q_M_isTrialBetter dC dI cJ cI cZ h aL aF aS aT aB ml n mf ms u A) [.ref h].toArray s 0 0 A) (F0 m 2 ls []) := by
    intro fu_2
    induction fu_2 with
    | zero =>
      intro i hi hv hfu_2 H locs ls hP hD hS hl
      exact absurd hfu_2 (by omega)
    | succ fu_2 ih_2 =>
      intro i hi hv hfu_2 H locs ls hP hD hS hl
      refine lv_iload_n hx hb d_M_isTrialBetter_2 rfl (lv_at hl 1 rfl) ?_
      refine lv_aload_n hx hb d_M_isTrialBetter_3 rfl (lv_at hl 0 rfl) ?_
      refine va_get (D := (dC, dI)) (ci := 1) (v := .int (nI n)) (C := R_M) (T := T_M) (N := 9) hx hb hts iT_M hown hK hP 0 rfl rfl 1 (by decide) (hts _ wd_37) (fun _ h9 => h9) rfl d_M_isTrialBetter_4 ?_
      refine k_nge (tgt := 61) hx hb d_M_isTrialBetter_7 (by decide) (by omega) (by omega) (fun c_7 => ?_) (fun c_7 => ?_)
      · refine lv_iconst (v := nI 0) hx hb d_M_isTrialBetter_61 (by decide) ?_
        exact k_zret (v := nI 0) hx hb hr hlocks rfl () (by unfold btB; rw [← hv, fdN_end (P := fun j => decide (¬ u.1 j * u.2.2.2.1 = u.2.2.1 j * u.2.1)) c_7, decide_eq_false (by omega)]; rfl) hP hD hK hS [0, 1, 2, 3, 4, 5] (by decide) rfl d_M_isTrialBetter_62
      · refine lv_aload_n hx hb d_M_isTrialBetter_10 rfl (lv_at hl 0 rfl) ?_
        refine va_get (D := (dC, dI)) (ci := 1) (v := .ref aT) (C := R_M) (T := T_M) (N := 9) hx hb hts iT_M hown hK hP 0 rfl rfl 4 (by decide) (hts _ wd_40) (fun _ h9 => h9) rfl d_M_isTrialBetter_11 ?_
        refine lv_iload_n hx hb d_M_isTrialBetter_14 rfl (lv_at hl 1 rfl) ?_
        refine k_lald (j := i) hx hb hK hP 4 0 rfl rfl (by omega) (by decide) d_M_isTrialBetter_15 ?_
        refine lv_aload_n hx hb d_M_isTrialBetter_16 rfl (lv_at hl 0 rfl) ?_
        refine va_get (D := (dC, dI)) (ci := 1) (v := .long u.2.2.2.1) (C := R_M) (T := T_M) (N := 9) hx hb hts iT_M hown hK hP 0 rfl rfl 7 (by decide) (hts _ wd_43) (fun _ h9 => h9) rfl d_M_isTrialBetter_17 ?_
        refine lv_lmul hx hb d_M_isTrialBetter_20 ?_
        refine lv_lstore_n (lv' := [(2, .long ((u.1 i) * u.2.2.2.1)), (0, .ref h), (1, .int (nI i))]) hx hb d_M_isTrialBetter_21 rfl hl (by decide) rfl (fun ls hl => ?_)
        refine lv_aload_n hx hb d_M_isTrialBetter_22 rfl (lv_at hl 1 rfl) ?_
        refine va_get (D := (dC, dI)) (ci := 1) (v := .ref aB) (C := R_M) (T := T_M) (N := 9) hx hb hts iT_M hown hK hP 0 rfl rfl 6 (by decide) (hts _ wd_42) (fun _ h9 => h9) rfl d_M_isTrialBetter_23 ?_
        refine lv_iload_n hx hb d_M_isTrialBetter_26 rfl (lv_at hl 2 rfl) ?_
        refine k_lald (j := i) hx hb hK hP 5 0 rfl rfl (by omega) (by decide) d_M_isTrialBetter_27 ?_
        refine lv_aload_n hx hb d_M_isTrialBetter_28 rfl (lv_at hl 1 rfl) ?_
        refine va_get (D := (dC, dI)) (ci := 1) (v := .long u.2.1) (C := R_M) (T := T_M) (N := 9) hx hb hts iT_M hown hK hP 0 rfl rfl 5 (by decide) (hts _ wd_41) (fun _ h9 => h9) rfl d_M_isTrialBetter_29 ?_
        refine lv_lmul hx hb d_M_isTrialBetter_32 ?_
        refine lv_lstore (lv' := [(4, .long ((u.2.2.1 i) * u.2.1)), (2, .long ((u.1 i) * u.2.2.2.1)), (0, .ref h), (1, .int (nI i))]) hx hb d_M_isTrialBetter_33 hl (by decide) rfl (fun ls hl => ?_)
        refine lv_lload_n hx hb d_M_isTrialBetter_35 rfl (lv_at hl 1 rfl) ?_
        refine lv_lload hx hb d_M_isTrialBetter_36 (lv_at hl 0 rfl) ?_
        refine k_jeq (tgt := 55) hx hb d_M_isTrialBetter_38 d_M_isTrialBetter_39 (by decide) (fun c_38 => ?_) (fun c_38 => ?_)
        · refine lv_iinc (v := nI (i + 1)) (lv' := [(1, .int (nI (i + 1))), (4, .long ((u.2.2.1 i) * u.2.1)), (2, .long ((u.1 i) * u.2.2.2.1)), (0, .ref h)]) hx hb d_M_isTrialBetter_55 hl (k := 3) rfl (nI_add i 1) (by decide) rfl (fun ls hl => ?_)
          refine lv_goto (tgt := 2) hx hb d_M_isTrialBetter_58 (by decide) ?_
          exact ih_2 (i + 1) (by omega) ((fdN_go (P := fun j => decide (¬ u.1 j * u.2.2.2.1 = u.2.2.1 j * u.2.1)) c_7 (decide_eq_false (fun h => h c_38))).symm.trans hv) (by omega) _ _ _ hP hD hS (lv_sub hl [3, 0] rfl)
        · refine lv_lload_n hx hb d_M_isTrialBetter_42 rfl (lv_at hl 1 rfl) ?_
          refine lv_lload hx hb d_M_isTrialBetter_43 (lv_at hl 0 rfl) ?_
          refine k_jle (tgt := 53) hx hb d_M_isTrialBetter_45 d_M_isTrialBetter_46 (by decide) (fun c_45 => ?_) (fun c_45 => ?_)
          · refine lv_iconst (v := nI 0) hx hb d_M_isTrialBetter_53 (by decide) ?_
            exact k_zret (v := nI 0) hx hb hr hlocks rfl () (by first | (unfold btB; rw [← hv, fdN_hit (P := fun j => decide (¬ u.1 j * u.2.2.2.1 = u.2.2.1 j * u.2.1)) c_7 (decide_eq_true c_38), decide_eq_true c_7, decide_eq_true c_45]; rfl) | (unfold btB; rw [← hv, fdN_hit (P := fun j => decide (¬ u.1 j * u.2.2.2.1 = u.2.2.1 j * u.2.1)) c_7 (decide_eq_true c_38), decide_eq_true c_7, decide_eq_false (Int64.not_lt.mpr c_45)]; rfl)) hP hD hK hS [0, 1, 2, 3, 4, 5] (by decide) rfl d_M_isTrialBetter_54
          · refine lv_iconst (v := nI 1) hx hb d_M_isTrialBetter_49 (by decide) ?_
            refine lv_goto (tgt := 54) hx hb d_M_isTrialBetter_50 (by decide) ?_
            exact k_zret (v := nI 1) hx hb hr hlocks rfl () (by first | (unfold btB; rw [← hv, fdN_hit (P := fun j => decide (¬ u.1 j * u.2.2.2.1 = u.2.2.1 j * u.2.1)) c_7 (decide_eq_true c_38), decide_eq_true c_7, decide_eq_true c_45]; rfl) | (unfold btB; rw [← hv, fdN_hit (P := fun j => decide (¬ u.1 j * u.2.2.2.1 = u.2.2.1 j * u.2.1)) c_7 (decide_eq_true c_38), decide_eq_true c_7, decide_eq_false (Int64.not_lt.mpr c_45)]; rfl)) hP hD hK hS [0, 1, 2, 3, 4, 5] (by decide) rfl d_M_isTrialBetter_54
  exact loop_2 (n + 1) 0 (by omega) rfl (by omega) _ _ _ hP hD hS (lv_sub hl [1, 0] rfl)
/-- M_keepIfBetter -/
abbrev q_M_keepIfBetter (dC : Nat → ClassId) (dI : Nat → Nat → Nat) (cJ cI cZ : ClassId) (h : Nat) (aL : Nat) (aF : Nat) (aS : Nat) (aT : Nat) (aB : Nat) (ml : Nat → Int32) (n : Nat) (mf : Nat → Int64) (ms : Nat → Int64) (u : MixS) (A : Nat → Prop) : Array Value → State → Outcome → State → Prop := va_Qv (fun (_ : Unit) => True) (kB (dC, dI) vwCl [(cJ, .long), (cI, .int), (cZ, .boolean)] A (fun (_ : Unit) => [(h, .inr (1, [.ref aL, .int (nI n), .ref aF, .ref aS, .ref aT, .long ((keepF n u).2.1), .ref aB, .long ((keepF n u).2.2.2.1), .int (zI ((keepF n u).2.2.2.2))])), (aL, .inl (cI, 4, .inl ml)), (aF, .inl (cJ, 5, .inr (.inl mf))), (aS, .inl (cJ, 5, .inr (.inl ms))), (aT, .inl (cJ, 4, .inr (.inl ((keepF n u).1)))), (aB, .inl (cJ, 4, .inr (.inl ((keepF n u).2.2.1))))])) A
set_option maxHeartbeats 4000000 in
set_option maxRecDepth 100000 in
theorem k_M_keepIfBetter (l : Launch) (dC : Nat → ClassId) (dI : Nat → Nat → Nat) (cJ cI cZ : ClassId) (sz : Nat) (h : Nat) (aL : Nat) (aF : Nat) (aS : Nat) (aT : Nat) (aB : Nat) (ml : Nat → Int32) (n : Nat) (mf : Nat → Int64) (ms : Nat → Int64) (u : MixS) (hn : n ≤ 4) : Met l y_M_keepIfBetter w_M_keepIfBetter { frames := 1, cells := 0, slots := 0, locals := 25 } (kPc (dC, dI) vwCl [(cJ, .long), (cI, .int), (cZ, .boolean)] [(h, .inr (1, [.ref aL, .int (nI n), .ref aF, .ref aS, .ref aT, .long u.2.1, .ref aB, .long u.2.2.2.1, .int (zI u.2.2.2.2)])), (aL, .inl (cI, 4, .inl ml)), (aF, .inl (cJ, 5, .inr (.inl mf))), (aS, .inl (cJ, 5, .inr (.inl ms))), (aT, .inl (cJ, 4, .inr (.inl u.1))), (aB, .inl (cJ, 4, .inr (.inl u.2.2.1)))] sz [.ref h]) (q_M_keepIfBetter dC dI cJ cI cZ h aL aF aS aT aB ml n mf ms u (va_A [(h, .inr (1, [.ref aL, .int (nI n), .ref aF, .ref aS, .ref aT, .long u.2.1, .ref aB, .long u.2.2.2.1, .int (zI u.2.2.2.2)])), (aL, .inl (cI, 4, .inl ml)), (aF, .inl (cJ, 5, .inr (.inl mf))), (aS, .inl (cJ, 5, .inr (.inl ms))), (aT, .inl (cJ, 4, .inr (.inl u.1))), (aB, .inl (cJ, 4, .inr (.inl u.2.2.1)))] sz)) 0 0 (va_A [(h, .inr (1, [.ref aL, .int (nI n), .ref aF, .ref aS, .ref aT, .long u.2.1, .ref aB, .long u.2.2.2.1, .int (zI u.2.2.2.2)])), (aL, .inl (cI, 4, .inl ml)), (aF, .inl (cJ, 5, .inr (.inl mf))), (aS, .inl (cJ, 5, .inr (.inl ms))), (aT, .inl (cJ, 4, .inr (.inl u.1))), (aB, .inl (cJ, 4, .inr (.inl u.2.2.1)))] sz) := by
  refine k_met (q_M_keepIfBetter dC dI cJ cI cZ h aL aF aS aT aB ml n mf ms u) (by decide +kernel) rfl (Nat.le_of_ble_eq_true rfl) ?_
  intro p e s m below meth c A hx hb hr hml hown hts hlocks hin hA H hP hK hD hS ls hl
  have hl : lv_has ls 2 [(0, .ref h)] := hl
  have hown : s.vm.findClass R_M = some m.cls := hown
  have hts : ∀ wW ∈ kT, wW.before [.ref h].toArray s = true := fun wW hW => hts wW (List.mem_cons_of_mem _ hW)
  have cut_22 : ∀ (hkb : keepB n u = true) (H : Heap) (locs : List Loc) (ls : Array Slot), va_P (dC, dI) vwCl [(h, .inr (1, [.ref aL, .int (nI n), .ref aF, .ref aS, .ref aT, .long u.2.1, .ref aB, .long u.2.2.2.1, .int (zI u.2.2.2.2)])), (aL, .inl (cI, 4, .inl ml)), (aF, .inl (cJ, 5, .inr (.inl mf))), (aS, .inl (cJ, 5, .inr (.inl ms))), (aT, .inl (cJ, 4, .inr (.inl u.1))), (aB, .inl (cJ, 4, .inr (.inl u.2.2.1)))] H → va_D A [(h, .inr (1, [.ref aL, .int (nI n), .ref aF, .ref aS, .ref aT, .long u.2.1, .ref aB, .long u.2.2.2.1, .int (zI u.2.2.2.2)])), (aL, .inl (cI, 4, .inl ml)), (aF, .inl (cJ, 5, .inr (.inl mf))), (aS, .inl (cJ, 5, .inr (.inl ms))), (aT, .inl (cJ, 4, .inr (.inl u.1))), (aB, .inl (cJ, 4, .inr (.inl u.2.2.1)))] → va_S A s.heap H locs → lv_has ls 2 [(0, .ref h)] → W p l e { frames := 1, cells := 0, slots := 0, locals := 25 } s m [.ref h].toArray below meth c H locs 0 0 (MQ below (q_M_keepIfBetter dC dI cJ cI cZ h aL aF aS aT aB ml n mf ms u A) [.ref h].toArray s 0 0 A) (F0 m 22 ls []) := by
    intro hkb H locs ls hP hD hS hl
    refine lv_iconst (v := nI 0) hx hb d_M_keepIfBetter_22 (by decide) ?_
    refine lv_istore_n (lv' := [(1, .int (nI 0)), (0, .ref h)]) hx hb d_M_keepIfBetter_23 rfl hl (by decide) rfl (fun ls hl => ?_)
    have hP : va_P (dC, dI) vwCl [(h, .inr (1, [.ref aL, .int (nI n), .ref aF, .ref aS, .ref aT, .long u.2.1, .ref aB, .long u.2.2.2.1, .int (zI u.2.2.2.2)])), (aL, .inl (cI, 4, .inl ml)), (aF, .inl (cJ, 5, .inr (.inl mf))), (aS, .inl (cJ, 5, .inr (.inl ms))), (aT, .inl (cJ, 4, .inr (.inl u.1))), (aB, .inl (cJ, 4, .inr (.inl ((u.1, u.2.1, cpy 0 u.1 u.2.2.1, u.2.2.2).2.2.1))))] H := by rw [show (u.1, u.2.1, cpy 0 u.1 u.2.2.1, u.2.2.2).2.2.1 = u.2.2.1 from cpy_0 u.1 u.2.2.1]; exact hP
    have hD : va_D A [(h, .inr (1, [.ref aL, .int (nI n), .ref aF, .ref aS, .ref aT, .long u.2.1, .ref aB, .long u.2.2.2.1, .int (zI u.2.2.2.2)])), (aL, .inl (cI, 4, .inl ml)), (aF, .inl (cJ, 5, .inr (.inl mf))), (aS, .inl (cJ, 5, .inr (.inl ms))), (aT, .inl (cJ, 4, .inr (.inl u.1))), (aB, .inl (cJ, 4, .inr (.inl ((u.1, u.2.1, cpy 0 u.1 u.2.2.1, u.2.2.2).2.2.1))))] := by rw [show (u.1, u.2.1, cpy 0 u.1 u.2.2.1, u.2.2.2).2.2.1 = u.2.2.1 from cpy_0 u.1 u.2.2.1]; exact hD
    have hP : va_P (dC, dI) vwCl [(h, .inr (1, [.ref aL, .int (nI n), .ref aF, .ref aS, .ref aT, .long ((u.1, u.2.1, cpy 0 u.1 u.2.2.1, u.2.2.2).2.1), .ref aB, .long ((u.1, u.2.1, cpy 0 u.1 u.2.2.1, u.2.2.2).2.2.2.1), .int (zI ((u.1, u.2.1, cpy 0 u.1 u.2.2.1, u.2.2.2).2.2.2.2))])), (aL, .inl (cI, 4, .inl ml)), (aF, .inl (cJ, 5, .inr (.inl mf))), (aS, .inl (cJ, 5, .inr (.inl ms))), (aT, .inl (cJ, 4, .inr (.inl ((u.1, u.2.1, cpy 0 u.1 u.2.2.1, u.2.2.2).1)))), (aB, .inl (cJ, 4, .inr (.inl ((u.1, u.2.1, cpy 0 u.1 u.2.2.1, u.2.2.2).2.2.1))))] H := hP
    have hD : va_D A [(h, .inr (1, [.ref aL, .int (nI n), .ref aF, .ref aS, .ref aT, .long ((u.1, u.2.1, cpy 0 u.1 u.2.2.1, u.2.2.2).2.1), .ref aB, .long ((u.1, u.2.1, cpy 0 u.1 u.2.2.1, u.2.2.2).2.2.2.1), .int (zI ((u.1, u.2.1, cpy 0 u.1 u.2.2.1, u.2.2.2).2.2.2.2))])), (aL, .inl (cI, 4, .inl ml)), (aF, .inl (cJ, 5, .inr (.inl mf))), (aS, .inl (cJ, 5, .inr (.inl ms))), (aT, .inl (cJ, 4, .inr (.inl ((u.1, u.2.1, cpy 0 u.1 u.2.2.1, u.2.2.2).1)))), (aB, .inl (cJ, 4, .inr (.inl ((u.1, u.2.1, cpy 0 u.1 u.2.2.1, u.2.2.2).2.2.1))))] := hD
    have loop_24 : ∀ (fu_24 : Nat) (i : Nat) (hi : i ≤ 4) (hfu_24 : 5 ≤ i + fu_24) (H : Heap) (locs : List Loc) (ls : Array Slot), va_P (dC, dI) vwCl [(h, .inr (1, [.ref aL, .int (nI n), .ref aF, .ref aS, .ref aT, .long ((u.1, u.2.1, cpy i u.1 u.2.2.1, u.2.2.2).2.1), .ref aB, .long ((u.1, u.2.1, cpy i u.1 u.2.2.1, u.2.2.2).2.2.2.1), .int (zI ((u.1, u.2.1, cpy i u.1 u.2.2.1, u.2.2.2).2.2.2.2))])), (aL, .inl (cI, 4, .inl ml)), (aF, .inl (cJ, 5, .inr (.inl mf))), (aS, .inl (cJ, 5, .inr (.inl ms))), (aT, .inl (cJ, 4, .inr (.inl ((u.1, u.2.1, cpy i u.1 u.2.2.1, u.2.2.2).1)))), (aB, .inl (cJ, 4, .inr (.inl ((u.1, u.2.1, cpy i u.1 u.2.2.1, u.2.2.2).2.2.1))))] H → va_D A [(h, .inr (1, [.ref aL, .int (nI n), .ref aF, .ref aS, .ref aT, .long ((u.1, u.2.1, cpy i u.1 u.2.2.1, u.2.2.2).2.1), .ref aB, .long ((u.1, u.2.1, cpy i u.1 u.2.2.1, u.2.2.2).2.2.2.1), .int (zI ((u.1, u.2.1, cpy i u.1 u.2.2.1, u.2.2.2).2.2.2.2))])), (aL, .inl (cI, 4, .inl ml)), (aF, .inl (cJ, 5, .inr (.inl mf))), (aS, .inl (cJ, 5, .inr (.inl ms))), (aT, .inl (cJ, 4, .inr (.inl ((u.1, u.2.1, cpy i u.1 u.2.2.1, u.2.2.2).1)))), (aB, .inl (cJ, 4, .inr (.inl ((u.1, u.2.1, cpy i u.1 u.2.2.1, u.2.2.2).2.2.1))))] → va_S A s.heap H locs → lv_has ls 2 [(0, .ref h), (1, .int (nI i))] → W p l e { frames := 1, cells := 0, slots := 0, locals := 25 } s m [.ref h].toArray below meth c H locs 0 0 (MQ below (q_M_keepIfBetter dC dI cJ cI cZ h aL aF aS aT aB ml n mf ms u A) [.ref h].toArray s 0 0 A) (F0 m 24 ls []) := by
      intro fu_24
      induction fu_24 with
      | zero =>
        intro i hi hfu_24 H locs ls hP hD hS hl
        exact absurd hfu_24 (by omega)
      | succ fu_24 ih_24 =>
        intro i hi hfu_24 H locs ls hP hD hS hl
        refine lv_iload_n hx hb d_M_keepIfBetter_24 rfl (lv_at hl 1 rfl) ?_
        refine lv_iconst (v := nI 4) hx hb d_M_keepIfBetter_25 (by decide) ?_
        refine k_nge (tgt := 47) hx hb d_M_keepIfBetter_26 (by decide) (by omega) (by omega) (fun c_26 => ?_) (fun c_26 => ?_)
        · obtain rfl : i = 4 := by omega
          refine lv_aload_n hx hb d_M_keepIfBetter_47 rfl (lv_at hl 0 rfl) ?_
          refine lv_aload_n hx hb d_M_keepIfBetter_48 rfl (lv_at hl 0 rfl) ?_
          refine va_get (D := (dC, dI)) (ci := 1) (v := .long ((u.1, u.2.1, cpy 4 u.1 u.2.2.1, u.2.2.2).2.1)) (C := R_M) (T := T_M) (N := 9) hx hb hts iT_M hown hK hP 0 rfl rfl 5 (by decide) (hts _ wd_41) (fun _ h9 => h9) rfl d_M_keepIfBetter_49 ?_
          refine va_put (D := (dC, dI)) (ci := 1) (v := .long ((u.1, u.2.1, cpy 4 u.1 u.2.2.1, u.2.2.2).2.1)) (ty := .long) (C := R_M) (T := T_M) (N := 9) hx hb hts iT_M t_M t_M_ok n_M hown hK hP hD hS 0 rfl rfl 7 (by decide) (hts _ wd_43) (fun _ h9 => h9) rfl (by decide +kernel) rfl rfl (Nat.le_of_ble_eq_true rfl) d_M_keepIfBetter_52 (fun H locs hP hD hS => ?_)
          have hP : va_P (dC, dI) vwCl [(h, .inr (1, [.ref aL, .int (nI n), .ref aF, .ref aS, .ref aT, .long ((u.1, u.2.1, cpy 4 u.1 u.2.2.1, u.2.2.2).2.1), .ref aB, .long ((u.1, u.2.1, cpy 4 u.1 u.2.2.1, u.2.2.2).2.1), .int (zI ((u.1, u.2.1, cpy 4 u.1 u.2.2.1, u.2.2.2).2.2.2.2))])), (aL, .inl (cI, 4, .inl ml)), (aF, .inl (cJ, 5, .inr (.inl mf))), (aS, .inl (cJ, 5, .inr (.inl ms))), (aT, .inl (cJ, 4, .inr (.inl ((u.1, u.2.1, cpy 4 u.1 u.2.2.1, u.2.2.2).1)))), (aB, .inl (cJ, 4, .inr (.inl ((u.1, u.2.1, cpy 4 u.1 u.2.2.1, u.2.2.2).2.2.1))))] H := hP
          have hD : va_D A [(h, .inr (1, [.ref aL, .int (nI n), .ref aF, .ref aS, .ref aT, .long ((u.1, u.2.1, cpy 4 u.1 u.2.2.1, u.2.2.2).2.1), .ref aB, .long ((u.1, u.2.1, cpy 4 u.1 u.2.2.1, u.2.2.2).2.1), .int (zI ((u.1, u.2.1, cpy 4 u.1 u.2.2.1, u.2.2.2).2.2.2.2))])), (aL, .inl (cI, 4, .inl ml)), (aF, .inl (cJ, 5, .inr (.inl mf))), (aS, .inl (cJ, 5, .inr (.inl ms))), (aT, .inl (cJ, 4, .inr (.inl ((u.1, u.2.1, cpy 4 u.1 u.2.2.1, u.2.2.2).1)))), (aB, .inl (cJ, 4, .inr (.inl ((u.1, u.2.1, cpy 4 u.1 u.2.2.1, u.2.2.2).2.2.1))))] := hD
          refine lv_aload_n hx hb d_M_keepIfBetter_55 rfl (lv_at hl 0 rfl) ?_
          refine lv_iconst (v := nI 1) hx hb d_M_keepIfBetter_56 (by decide) ?_
          refine k_toi (y := zI true) (by decide) ?_
          refine va_put (D := (dC, dI)) (ci := 1) (v := .int (zI true)) (ty := .boolean) (C := R_M) (T := T_M) (N := 9) hx hb hts iT_M t_M t_M_ok n_M hown hK hP hD hS 0 rfl rfl 8 (by decide) (hts _ wd_44) (fun _ h9 => h9) rfl (by decide +kernel) rfl rfl (Nat.le_of_ble_eq_true rfl) d_M_keepIfBetter_57 (fun H locs hP hD hS => ?_)
          have hP : va_P (dC, dI) vwCl [(h, .inr (1, [.ref aL, .int (nI n), .ref aF, .ref aS, .ref aT, .long ((u.1, u.2.1, cpy 4 u.1 u.2.2.1, u.2.2.2).2.1), .ref aB, .long ((u.1, u.2.1, cpy 4 u.1 u.2.2.1, u.2.2.2).2.1), .int (zI true)])), (aL, .inl (cI, 4, .inl ml)), (aF, .inl (cJ, 5, .inr (.inl mf))), (aS, .inl (cJ, 5, .inr (.inl ms))), (aT, .inl (cJ, 4, .inr (.inl ((u.1, u.2.1, cpy 4 u.1 u.2.2.1, u.2.2.2).1)))), (aB, .inl (cJ, 4, .inr (.inl ((u.1, u.2.1, cpy 4 u.1 u.2.2.1, u.2.2.2).2.2.1))))] H := hP
          have hD : va_D A [(h, .inr (1, [.ref aL, .int (nI n), .ref aF, .ref aS, .ref aT, .long ((u.1, u.2.1, cpy 4 u.1 u.2.2.1, u.2.2.2).2.1), .ref aB, .long ((u.1, u.2.1, cpy 4 u.1 u.2.2.1, u.2.2.2).2.1), .int (zI true)])), (aL, .inl (cI, 4, .inl ml)), (aF, .inl (cJ, 5, .inr (.inl mf))), (aS, .inl (cJ, 5, .inr (.inl ms))), (aT, .inl (cJ, 4, .inr (.inl ((u.1, u.2.1, cpy 4 u.1 u.2.2.1, u.2.2.2).1)))), (aB, .inl (cJ, 4, .inr (.inl ((u.1, u.2.1, cpy 4 u.1 u.2.2.1, u.2.2.2).2.2.1))))] := hD
          have hq9 : keepF n u = (u.1, u.2.1, cpy 4 u.1 u.2.2.1, u.2.1, true) := by unfold keepF; rw [if_pos hkb]
          have hP : va_P (dC, dI) vwCl [(h, .inr (1, [.ref aL, .int (nI n), .ref aF, .ref aS, .ref aT, .long ((keepF n u).2.1), .ref aB, .long ((keepF n u).2.2.2.1), .int (zI ((keepF n u).2.2.2.2))])), (aL, .inl (cI, 4, .inl ml)), (aF, .inl (cJ, 5, .inr (.inl mf))), (aS, .inl (cJ, 5, .inr (.inl ms))), (aT, .inl (cJ, 4, .inr (.inl ((keepF n u).1)))), (aB, .inl (cJ, 4, .inr (.inl ((keepF n u).2.2.1))))] H := by rw [hq9]; exact hP
          have hD : va_D A [(h, .inr (1, [.ref aL, .int (nI n), .ref aF, .ref aS, .ref aT, .long ((keepF n u).2.1), .ref aB, .long ((keepF n u).2.2.2.1), .int (zI ((keepF n u).2.2.2.2))])), (aL, .inl (cI, 4, .inl ml)), (aF, .inl (cJ, 5, .inr (.inl mf))), (aS, .inl (cJ, 5, .inr (.inl ms))), (aT, .inl (cJ, 4, .inr (.inl ((keepF n u).1)))), (aB, .inl (cJ, 4, .inr (.inl ((keepF n u).2.2.1))))] := by rw [hq9]; exact hD
          exact k_vret hx hb hr hlocks () trivial hP hD hK hS [0, 1, 2, 3, 4, 5] (by decide) rfl d_M_keepIfBetter_60
        · refine lv_aload_n hx hb d_M_keepIfBetter_29 rfl (lv_at hl 0 rfl) ?_
          refine va_get (D := (dC, dI)) (ci := 1) (v := .ref aB) (C := R_M) (T := T_M) (N := 9) hx hb hts iT_M hown hK hP 0 rfl rfl 6 (by decide) (hts _ wd_42) (fun _ h9 => h9) rfl d_M_keepIfBetter_30 ?_
          refine lv_iload_n hx hb d_M_keepIfBetter_33 rfl (lv_at hl 1 rfl) ?_
          refine lv_aload_n hx hb d_M_keepIfBetter_34 rfl (lv_at hl 0 rfl) ?_
          refine va_get (D := (dC, dI)) (ci := 1) (v := .ref aT) (C := R_M) (T := T_M) (N := 9) hx hb hts iT_M hown hK hP 0 rfl rfl 4 (by decide) (hts _ wd_40) (fun _ h9 => h9) rfl d_M_keepIfBetter_35 ?_
          refine lv_iload_n hx hb d_M_keepIfBetter_38 rfl (lv_at hl 1 rfl) ?_
          refine k_lald (j := i) hx hb hK hP 4 0 rfl rfl (by omega) (by decide) d_M_keepIfBetter_39 ?_
          refine k_last (j := i) hx hb hK hP hD hS 5 0 rfl rfl (by omega) (by decide) d_M_keepIfBetter_40 (fun H locs hP hD hS => ?_)
          have ef_40 : vp_updL ((u.1, u.2.1, cpy i u.1 u.2.2.1, u.2.2.2).2.2.1) i (((u.1, u.2.1, cpy i u.1 u.2.2.1, u.2.2.2).1) i) = (u.1, u.2.1, cpy (i + 1) u.1 u.2.2.1, u.2.2.2).2.2.1 := cpy_step u.1 u.2.2.1 i
          rw [ef_40] at hP hD
          have hP : va_P (dC, dI) vwCl [(h, .inr (1, [.ref aL, .int (nI n), .ref aF, .ref aS, .ref aT, .long ((u.1, u.2.1, cpy i u.1 u.2.2.1, u.2.2.2).2.1), .ref aB, .long ((u.1, u.2.1, cpy i u.1 u.2.2.1, u.2.2.2).2.2.2.1), .int (zI ((u.1, u.2.1, cpy i u.1 u.2.2.1, u.2.2.2).2.2.2.2))])), (aL, .inl (cI, 4, .inl ml)), (aF, .inl (cJ, 5, .inr (.inl mf))), (aS, .inl (cJ, 5, .inr (.inl ms))), (aT, .inl (cJ, 4, .inr (.inl ((u.1, u.2.1, cpy i u.1 u.2.2.1, u.2.2.2).1)))), (aB, .inl (cJ, 4, .inr (.inl ((u.1, u.2.1, cpy (i + 1) u.1 u.2.2.1, u.2.2.2).2.2.1))))] H := hP
          have hD : va_D A [(h, .inr (1, [.ref aL, .int (nI n), .ref aF, .ref aS, .ref aT, .long ((u.1, u.2.1, cpy i u.1 u.2.2.1, u.2.2.2).2.1), .ref aB, .long ((u.1, u.2.1, cpy i u.1 u.2.2.1, u.2.2.2).2.2.2.1), .int (zI ((u.1, u.2.1, cpy i u.1 u.2.2.1, u.2.2.2).2.2.2.2))])), (aL, .inl (cI, 4, .inl ml)), (aF, .inl (cJ, 5, .inr (.inl mf))), (aS, .inl (cJ, 5, .inr (.inl ms))), (aT, .inl (cJ, 4, .inr (.inl ((u.1, u.2.1, cpy i u.1 u.2.2.1, u.2.2.2).1)))), (aB, .inl (cJ, 4, .inr (.inl ((u.1, u.2.1, cpy (i + 1) u.1 u.2.2.1, u.2.2.2).2.2.1))))] := hD
          have hP : va_P (dC, dI) vwCl [(h, .inr (1, [.ref aL, .int (nI n), .ref aF, .ref aS, .ref aT, .long ((u.1, u.2.1, cpy (i + 1) u.1 u.2.2.1, u.2.2.2).2.1), .ref aB, .long ((u.1, u.2.1, cpy (i + 1) u.1 u.2.2.1, u.2.2.2).2.2.2.1), .int (zI ((u.1, u.2.1, cpy (i + 1) u.1 u.2.2.1, u.2.2.2).2.2.2.2))])), (aL, .inl (cI, 4, .inl ml)), (aF, .inl (cJ, 5, .inr (.inl mf))), (aS, .inl (cJ, 5, .inr (.inl ms))), (aT, .inl (cJ, 4, .inr (.inl ((u.1, u.2.1, cpy (i + 1) u.1 u.2.2.1, u.2.2.2).1)))), (aB, .inl (cJ, 4, .inr (.inl ((u.1, u.2.1, cpy (i + 1) u.1 u.2.2.1, u.2.2.2).2.2.1))))] H := hP
          have hD : va_D A [(h, .inr (1, [.ref aL, .int (nI n), .ref aF, .ref aS, .ref aT, .long ((u.1, u.2.1, cpy (i + 1) u.1 u.2.2.1, u.2.2.2).2.1), .ref aB, .long ((u.1, u.2.1, cpy (i + 1) u.1 u.2.2.1, u.2.2.2).2.2.2.1), .int (zI ((u.1, u.2.1, cpy (i + 1) u.1 u.2.2.1, u.2.2.2).2.2.2.2))])), (aL, .inl (cI, 4, .inl ml)), (aF, .inl (cJ, 5, .inr (.inl mf))), (aS, .inl (cJ, 5, .inr (.inl ms))), (aT, .inl (cJ, 4, .inr (.inl ((u.1, u.2.1, cpy (i + 1) u.1 u.2.2.1, u.2.2.2).1)))), (aB, .inl (cJ, 4, .inr (.inl ((u.1, u.2.1, cpy (i + 1) u.1 u.2.2.1, u.2.2.2).2.2.1))))] := hD
          refine lv_iinc (v := nI (i + 1)) (lv' := [(1, .int (nI (i + 1))), (0, .ref h)]) hx hb d_M_keepIfBetter_41 hl (k := 1) rfl (nI_add i 1) (by decide) rfl (fun ls hl => ?_)
          refine lv_goto (tgt := 24) hx hb d_M_keepIfBetter_44 (by decide) ?_
          exact ih_24 (i + 1) (by omega) (by omega) _ _ _ hP hD hS (lv_sub hl [1, 0] rfl)
    exact loop_24 5 0 (by omega) (by omega) _ _ _ hP hD hS (lv_sub hl [1, 0] rfl)
  refine lv_aload_n hx hb d_M_keepIfBetter_0 rfl (lv_at hl 0 rfl) ?_
  refine k_calli (wr := []) (va_runV (As := []) (rest := []) ⟨hx, hb, hml, hown, hts⟩ (k_M_isTrialPossible l dC dI cJ cI cZ _ h aL aF aS aT aB ml n mf ms u (by omega)) (k_cw (y := y_M_isTrialPossible) (own := R_M) hts wd_136 wd_26 wd_132 wd_130 wd_131 hd_M_isTrialPossible ⟨Nat.le_of_ble_eq_true rfl, Nat.le_of_ble_eq_true rfl⟩) (k_preV (ci := 1) (q0 := 0) hP hD hK [0, 1, 2, 3, 4, 5] rfl (by decide) rfl rfl) rfl rfl hl.1 rfl (lv_room (Nat.le_of_ble_eq_true rfl)) d_M_keepIfBetter_1 ⟨Nat.le_of_ble_eq_true rfl, Nat.le_of_ble_eq_true rfl⟩) hP hD hS hA [0, 1, 2, 3, 4, 5] [] rfl rfl (by decide) (by decide) (fun r_1 uu H locs hpo hP hD hS => ?_)
  have hpo : r_1 = zI (posB u.1 n) := hpo
  subst hpo
  have hP : va_P (dC, dI) vwCl [(h, .inr (1, [.ref aL, .int (nI n), .ref aF, .ref aS, .ref aT, .long u.2.1, .ref aB, .long u.2.2.2.1, .int (zI u.2.2.2.2)])), (aL, .inl (cI, 4, .inl ml)), (aF, .inl (cJ, 5, .inr (.inl mf))), (aS, .inl (cJ, 5, .inr (.inl ms))), (aT, .inl (cJ, 4, .inr (.inl u.1))), (aB, .inl (cJ, 4, .inr (.inl u.2.2.1)))] H := hP
  have hD : va_D A [(h, .inr (1, [.ref aL, .int (nI n), .ref aF, .ref aS, .ref aT, .long u.2.1, .ref aB, .long u.2.2.2.1, .int (zI u.2.2.2.2)])), (aL, .inl (cI, 4, .inl ml)), (aF, .inl (cJ, 5, .inr (.inl mf))), (aS, .inl (cJ, 5, .inr (.inl ms))), (aT, .inl (cJ, 4, .inr (.inl u.1))), (aB, .inl (cJ, 4, .inr (.inl u.2.2.1)))] := hD
  refine k_zeq (tgt := 21) hx hb d_M_keepIfBetter_4 (by decide) (fun c_4 => ?_) (fun c_4 => ?_)
  · have hq9 : keepF n u = u := by first | (unfold keepF keepB; rw [c_4]; rfl) | (unfold keepF keepB; rw [c_4, c_11, c_18]; rfl)
    have hP : va_P (dC, dI) vwCl [(h, .inr (1, [.ref aL, .int (nI n), .ref aF, .ref aS, .ref aT, .long ((keepF n u).2.1), .ref aB, .long ((keepF n u).2.2.2.1), .int (zI ((keepF n u).2.2.2.2))])), (aL, .inl (cI, 4, .inl ml)), (aF, .inl (cJ, 5, .inr (.inl mf))), (aS, .inl (cJ, 5, .inr (.inl ms))), (aT, .inl (cJ, 4, .inr (.inl ((keepF n u).1)))), (aB, .inl (cJ, 4, .inr (.inl ((keepF n u).2.2.1))))] H := by rw [hq9]; exact hP
    have hD : va_D A [(h, .inr (1, [.ref aL, .int (nI n), .ref aF, .ref aS, .ref aT, .long ((keepF n u).2.1), .ref aB, .long ((keepF n u).2.2.2.1), .int (zI ((keepF n u).2.2.2.2))])), (aL, .inl (cI, 4, .inl ml)), (aF, .inl (cJ, 5, .inr (.inl mf))), (aS, .inl (cJ, 5, .inr (.inl ms))), (aT, .inl (cJ, 4, .inr (.inl ((keepF n u).1)))), (aB, .inl (cJ, 4, .inr (.inl ((keepF n u).2.2.1))))] := by rw [hq9]; exact hD
    exact k_vret hx hb hr hlocks () trivial hP hD hK hS [0, 1, 2, 3, 4, 5] (by decide) rfl d_M_keepIfBetter_21
  · refine lv_aload_n hx hb d_M_keepIfBetter_7 rfl (lv_at hl 0 rfl) ?_
    refine va_get (D := (dC, dI)) (ci := 1) (v := .int (zI u.2.2.2.2)) (C := R_M) (T := T_M) (N := 9) hx hb hts iT_M hown hK hP 0 rfl rfl 8 (by decide) (hts _ wd_44) (fun _ h9 => h9) rfl d_M_keepIfBetter_8 ?_
    refine k_zeq (tgt := 22) hx hb d_M_keepIfBetter_11 (by decide) (fun c_11 => ?_) (fun c_11 => ?_)
    · exact cut_22 (by unfold keepB; rw [c_4, c_11]; rfl) _ _ _ hP hD hS hl
    · refine lv_aload_n hx hb d_M_keepIfBetter_14 rfl (lv_at hl 0 rfl) ?_
      refine k_calli (wr := []) (va_runV (As := []) (rest := []) ⟨hx, hb, hml, hown, hts⟩ (k_M_isTrialBetter l dC dI cJ cI cZ _ h aL aF aS aT aB ml n mf ms u (by omega)) (k_cw (y := y_M_isTrialBetter) (own := R_M) hts wd_137 wd_26 wd_135 wd_133 wd_134 hd_M_isTrialBetter ⟨Nat.le_of_ble_eq_true rfl, Nat.le_of_ble_eq_true rfl⟩) (k_preV (ci := 1) (q0 := 0) hP hD hK [0, 1, 2, 3, 4, 5] rfl (by decide) rfl rfl) rfl rfl hl.1 rfl (lv_room (Nat.le_of_ble_eq_true rfl)) d_M_keepIfBetter_15 ⟨Nat.le_of_ble_eq_true rfl, Nat.le_of_ble_eq_true rfl⟩) hP hD hS hA [0, 1, 2, 3, 4, 5] [] rfl rfl (by decide) (by decide) (fun r_15 uu H locs hpo hP hD hS => ?_)
      have hpo : r_15 = zI (btB u.1 u.2.1 u.2.2.1 u.2.2.2.1 n) := hpo
      subst hpo
      have hP : va_P (dC, dI) vwCl [(h, .inr (1, [.ref aL, .int (nI n), .ref aF, .ref aS, .ref aT, .long u.2.1, .ref aB, .long u.2.2.2.1, .int (zI u.2.2.2.2)])), (aL, .inl (cI, 4, .inl ml)), (aF, .inl (cJ, 5, .inr (.inl mf))), (aS, .inl (cJ, 5, .inr (.inl ms))), (aT, .inl (cJ, 4, .inr (.inl u.1))), (aB, .inl (cJ, 4, .inr (.inl u.2.2.1)))] H := hP
      have hD : va_D A [(h, .inr (1, [.ref aL, .int (nI n), .ref aF, .ref aS, .ref aT, .long u.2.1, .ref aB, .long u.2.2.2.1, .int (zI u.2.2.2.2)])), (aL, .inl (cI, 4, .inl ml)), (aF, .inl (cJ, 5, .inr (.inl mf))), (aS, .inl (cJ, 5, .inr (.inl ms))), (aT, .inl (cJ, 4, .inr (.inl u.1))), (aB, .inl (cJ, 4, .inr (.inl u.2.2.1)))] := hD
      refine k_zne (tgt := 22) hx hb d_M_keepIfBetter_18 (by decide) (fun c_18 => ?_) (fun c_18 => ?_)
      · exact cut_22 (by unfold keepB; rw [c_4, c_18]; simp) _ _ _ hP hD hS hl
      · have hq9 : keepF n u = u := by first | (unfold keepF keepB; rw [c_4]; rfl) | (unfold keepF keepB; rw [c_4, c_11, c_18]; rfl)
        have hP : va_P (dC, dI) vwCl [(h, .inr (1, [.ref aL, .int (nI n), .ref aF, .ref aS, .ref aT, .long ((keepF n u).2.1), .ref aB, .long ((keepF n u).2.2.2.1), .int (zI ((keepF n u).2.2.2.2))])), (aL, .inl (cI, 4, .inl ml)), (aF, .inl (cJ, 5, .inr (.inl mf))), (aS, .inl (cJ, 5, .inr (.inl ms))), (aT, .inl (cJ, 4, .inr (.inl ((keepF n u).1)))), (aB, .inl (cJ, 4, .inr (.inl ((keepF n u).2.2.1))))] H := by rw [hq9]; exact hP
        have hD : va_D A [(h, .inr (1, [.ref aL, .int (nI n), .ref aF, .ref aS, .ref aT, .long ((keepF n u).2.1), .ref aB, .long ((keepF n u).2.2.2.1), .int (zI ((keepF n u).2.2.2.2))])), (aL, .inl (cI, 4, .inl ml)), (aF, .inl (cJ, 5, .inr (.inl mf))), (aS, .inl (cJ, 5, .inr (.inl ms))), (aT, .inl (cJ, 4, .inr (.inl ((keepF n u).1)))), (aB, .inl (cJ, 4, .inr (.inl ((keepF n u).2.2.1))))] := by rw [hq9]; exact hD
        exact k_vret hx hb hr hlocks () trivial hP hD hK hS [0, 1, 2, 3, 4, 5] (by decide) rfl d_M_keepIfBetter_21
