/-- X_pay -/
abbrev q_X_pay (dC : Nat → ClassId) (dI : Nat → Nat → Nat) (cJ cI cZ : ClassId) (h : Nat) (aK : Nat) (aF : Nat) (aS : Nat) (aZ : Nat) (aL : Nat) (aP : Nat) (aC : Nat) (aH : Nat) (aE : Nat) (aM : Nat) (n : Nat) (sc : Nat) (np : Nat) (nc : Nat) (kg : Nat → Int64) (ft : Nat → Int64) (so : Nat → Int64) (pf : Nat → Int64) (pz : Nat → Int64) (x : Int32) (A : Nat → Prop) : Array Value → State → Outcome → State → Prop := va_Ql (fun (r : Int64) (_ : Unit) => r = paA n kg ft so pf pz np x) (kB (dC, dI) vwCl [(cJ, .long), (cI, .int), (cZ, .boolean)] A (fun (_ : Unit) => [(h, .inr (0, [.ref aK, .ref aF, .ref aS, .ref aZ, .int (nI n), .ref aL, .int (nI sc), .ref aP, .ref aC, .int (nI np), .ref aH, .int (nI nc), .ref aE, .ref aM])), (aK, .inl (cJ, 60, .inr (.inl kg))), (aF, .inl (cJ, 60, .inr (.inl ft))), (aS, .inl (cJ, 60, .inr (.inl so))), (aP, .inl (cJ, 10, .inr (.inl pf))), (aC, .inl (cJ, 10, .inr (.inl pz)))])) A
set_option maxHeartbeats 4000000 in
set_option maxRecDepth 100000 in
theorem k_X_pay (l : Launch) (dC : Nat → ClassId) (dI : Nat → Nat → Nat) (cJ cI cZ : ClassId) (sz : Nat) (h : Nat) (aK : Nat) (aF : Nat) (aS : Nat) (aZ : Nat) (aL : Nat) (aP : Nat) (aC : Nat) (aH : Nat) (aE : Nat) (aM : Nat) (n : Nat) (sc : Nat) (np : Nat) (nc : Nat) (kg : Nat → Int64) (ft : Nat → Int64) (so : Nat → Int64) (pf : Nat → Int64) (pz : Nat → Int64) (x : Int32) (hn : n ≤ 60) (hnp : np ≤ 10) : Met l y_X_pay w_X_pay { frames := 1, cells := 0, slots := 0, locals := 23 } (kPc (dC, dI) vwCl [(cJ, .long), (cI, .int), (cZ, .boolean)] [(h, .inr (0, [.ref aK, .ref aF, .ref aS, .ref aZ, .int (nI n), .ref aL, .int (nI sc), .ref aP, .ref aC, .int (nI np), .ref aH, .int (nI nc), .ref aE, .ref aM])), (aK, .inl (cJ, 60, .inr (.inl kg))), (aF, .inl (cJ, 60, .inr (.inl ft))), (aS, .inl (cJ, 60, .inr (.inl so))), (aP, .inl (cJ, 10, .inr (.inl pf))), (aC, .inl (cJ, 10, .inr (.inl pz)))] sz [.ref h, .int x]) (q_X_pay dC dI cJ cI cZ h aK aF aS aZ aL aP aC aH aE aM n sc np nc kg ft so pf pz x (va_A [(h, .inr (0, [.ref aK, .ref aF, .ref aS, .ref aZ, .int (nI n), .ref aL, .int (nI sc), .ref aP, .ref aC, .int (nI np), .ref aH, .int (nI nc), .ref aE, .ref aM])), (aK, .inl (cJ, 60, .inr (.inl kg))), (aF, .inl (cJ, 60, .inr (.inl ft))), (aS, .inl (cJ, 60, .inr (.inl so))), (aP, .inl (cJ, 10, .inr (.inl pf))), (aC, .inl (cJ, 10, .inr (.inl pz)))] sz)) 0 0 (va_A [(h, .inr (0, [.ref aK, .ref aF, .ref aS, .ref aZ, .int (nI n), .ref aL, .int (nI sc), .ref aP, .ref aC, .int (nI np), .ref aH, .int (nI nc), .ref aE, .ref aM])), (aK, .inl (cJ, 60, .inr (.inl kg))), (aF, .inl (cJ, 60, .inr (.inl ft))), (aS, .inl (cJ, 60, .inr (.inl so))), (aP, .inl (cJ, 10, .inr (.inl pf))), (aC, .inl (cJ, 10, .inr (.inl pz)))] sz) := by
  refine k_met (q_X_pay dC dI cJ cI cZ h aK aF aS aZ aL aP aC aH aE aM n sc np nc kg ft so pf pz x) (by decide +kernel) rfl (Nat.le_of_ble_eq_true rfl) ?_
  intro p e s m below meth c A hx hb hr hml hown hts hlocks hin hA H hP hK hD hS ls hl
  have hl : lv_has ls 5 [(0, .ref h), (1, .int x)] := hl
  have hown : s.vm.findClass R_X = some m.cls := hown
  have hts : ∀ wW ∈ kT, wW.before [.ref h, .int x].toArray s = true := fun wW hW => hts wW (List.mem_cons_of_mem _ hW)
  refine lv_aload_n hx hb d_X_pay_0 rfl (lv_at hl 0 rfl) ?_
  refine lv_iload_n hx hb d_X_pay_1 rfl (lv_at hl 1 rfl) ?_
  refine k_calli (wr := [(aK, .inl (cJ, 60, .inr (.inl kg))), (aF, .inl (cJ, 60, .inr (.inl ft))), (aS, .inl (cJ, 60, .inr (.inl so))), (aP, .inl (cJ, 10, .inr (.inl pf))), (aC, .inl (cJ, 10, .inr (.inl pz)))]) (va_runV (As := [.int x]) (rest := []) ⟨hx, hb, hml, hown, hts⟩ (k_X_isLot l dC dI cJ cI cZ _ h aK aF aS aZ aL aP aC aH aE aM n sc np nc x) (k_cw (y := y_X_isLot) (own := R_X) hts wd_68 wd_46 wd_67 wd_65 wd_66 hd_X_isLot ⟨Nat.le_of_ble_eq_true rfl, Nat.le_of_ble_eq_true rfl⟩) (k_preV (ci := 0) (q0 := 0) hP hD hK [0] rfl (by decide) rfl rfl) rfl rfl hl.1 rfl (lv_room (Nat.le_of_ble_eq_true rfl)) d_X_pay_2 ⟨Nat.le_of_ble_eq_true rfl, Nat.le_of_ble_eq_true rfl⟩) hP hD hS hA [0] [1, 2, 3, 4, 5] rfl rfl (by decide) (by decide) (fun r_2 uu H locs hpo hP hD hS => ?_)
  have hpo : r_2 = zI (lotB n x) := hpo
  subst hpo
  have hP : va_P (dC, dI) vwCl [(aK, .inl (cJ, 60, .inr (.inl kg))), (aF, .inl (cJ, 60, .inr (.inl ft))), (aS, .inl (cJ, 60, .inr (.inl so))), (aP, .inl (cJ, 10, .inr (.inl pf))), (aC, .inl (cJ, 10, .inr (.inl pz))), (h, .inr (0, [.ref aK, .ref aF, .ref aS, .ref aZ, .int (nI n), .ref aL, .int (nI sc), .ref aP, .ref aC, .int (nI np), .ref aH, .int (nI nc), .ref aE, .ref aM]))] H := hP
  have hD : va_D A [(aK, .inl (cJ, 60, .inr (.inl kg))), (aF, .inl (cJ, 60, .inr (.inl ft))), (aS, .inl (cJ, 60, .inr (.inl so))), (aP, .inl (cJ, 10, .inr (.inl pf))), (aC, .inl (cJ, 10, .inr (.inl pz))), (h, .inr (0, [.ref aK, .ref aF, .ref aS, .ref aZ, .int (nI n), .ref aL, .int (nI sc), .ref aP, .ref aC, .int (nI np), .ref aH, .int (nI nc), .ref aE, .ref aM]))] := hD
  refine k_zne (tgt := 12) hx hb d_X_pay_5 (by decide) (fun c_5 => ?_) (fun c_5 => ?_)
  · obtain ⟨j, hj, rfl⟩ := lotB_nat (by omega) c_5
    have hcl : (nI j).toNatClampNeg = j := nI_clamp (by omega)
    refine lv_aload_n hx hb d_X_pay_12 rfl (lv_at hl 0 rfl) ?_
    refine va_get (D := (dC, dI)) (ci := 0) (v := .ref aK) (C := R_X) (T := T_X) (N := 14) hx hb hts iT_X hown hK hP 5 rfl rfl 0 (by decide) (hts _ wd_5) (fun _ h9 => h9) rfl d_X_pay_13 ?_
    refine lv_iload_n hx hb d_X_pay_16 rfl (lv_at hl 1 rfl) ?_
    refine k_lald (j := j) hx hb hK hP 0 0 rfl rfl (by omega) (by decide) d_X_pay_17 ?_
    refine lv_ldc2 (v := 4) hx hb hown (hts _ wd_193) d_X_pay_18 ?_
    refine lv_aload_n hx hb d_X_pay_21 rfl (lv_at hl 0 rfl) ?_
    refine va_get (D := (dC, dI)) (ci := 0) (v := .ref aF) (C := R_X) (T := T_X) (N := 14) hx hb hts iT_X hown hK hP 5 rfl rfl 1 (by decide) (hts _ wd_6) (fun _ h9 => h9) rfl d_X_pay_22 ?_
    refine lv_iload_n hx hb d_X_pay_25 rfl (lv_at hl 1 rfl) ?_
    refine k_lald (j := j) hx hb hK hP 1 0 rfl rfl (by omega) (by decide) d_X_pay_26 ?_
    refine lv_lmul hx hb d_X_pay_27 ?_
    refine lv_ldc2 (v := 3) hx hb hown (hts _ wd_194) d_X_pay_28 ?_
    refine lv_aload_n hx hb d_X_pay_31 rfl (lv_at hl 0 rfl) ?_
    refine va_get (D := (dC, dI)) (ci := 0) (v := .ref aS) (C := R_X) (T := T_X) (N := 14) hx hb hts iT_X hown hK hP 5 rfl rfl 2 (by decide) (hts _ wd_7) (fun _ h9 => h9) rfl d_X_pay_32 ?_
    refine lv_iload_n hx hb d_X_pay_35 rfl (lv_at hl 1 rfl) ?_
    refine k_lald (j := j) hx hb hK hP 2 0 rfl rfl (by omega) (by decide) d_X_pay_36 ?_
    refine lv_lmul hx hb d_X_pay_37 ?_
    refine lv_ladd hx hb d_X_pay_38 ?_
    refine lv_lmul hx hb d_X_pay_39 ?_
    refine lv_ldc2 (v := 1000) hx hb hown (hts _ wd_195) d_X_pay_40 ?_
    refine lv_ldiv hx hb d_X_pay_43 (by decide) ?_
    refine lv_lstore_n (lv' := [(2, .long (((kg j) * ((4 * (ft j)) + (3 * (so j)))) / 1000)), (0, .ref h), (1, .int (nI j))]) hx hb d_X_pay_44 rfl hl (by decide) rfl (fun ls hl => ?_)
    refine lv_iconst (v := nI 0) hx hb d_X_pay_45 (by decide) ?_
    refine lv_istore (lv' := [(4, .int (nI 0)), (2, .long (((kg j) * ((4 * (ft j)) + (3 * (so j)))) / 1000)), (0, .ref h), (1, .int (nI j))]) hx hb d_X_pay_46 hl (by decide) rfl (fun ls hl => ?_)
    have loop_48 : ∀ (fu_48 : Nat) (i : Nat) (v : Int64) (hi : i ≤ np) (hv : payL pf pz (kg j) (ft j) (np - i) i v = payL pf pz (kg j) (ft j) np 0 (pa0 (kg j) (ft j) (so j))) (hfu_48 : np + 1 ≤ i + fu_48) (H : Heap) (locs : List Loc) (ls : Array Slot), va_P (dC, dI) vwCl [(h, .inr (0, [.ref aK, .ref aF, .ref aS, .ref aZ, .int (nI n), .ref aL, .int (nI sc), .ref aP, .ref aC, .int (nI np), .ref aH, .int (nI nc), .ref aE, .ref aM])), (aK, .inl (cJ, 60, .inr (.inl kg))), (aF, .inl (cJ, 60, .inr (.inl ft))), (aS, .inl (cJ, 60, .inr (.inl so))), (aP, .inl (cJ, 10, .inr (.inl pf))), (aC, .inl (cJ, 10, .inr (.inl pz)))] H → va_D A [(h, .inr (0, [.ref aK, .ref aF, .ref aS, .ref aZ, .int (nI n), .ref aL, .int (nI sc), .ref aP, .ref aC, .int (nI np), .ref aH, .int (nI nc), .ref aE, .ref aM])), (aK, .inl (cJ, 60, .inr (.inl kg))), (aF, .inl (cJ, 60, .inr (.inl ft))), (aS, .inl (cJ, 60, .inr (.inl so))), (aP, .inl (cJ, 10, .inr (.inl pf))), (aC, .inl (cJ, 10, .inr (.inl pz)))] → va_S A s.heap H locs → lv_has ls 5 [(0, .ref h), (1, .int (nI j)), (2, .long v), (4, .int (nI i))] → W p l e { frames := 1, cells := 0, slots := 0, locals := 23 } s m [.ref h, .int (nI j)].toArray below meth c H locs 0 0 (MQ below (q_X_pay dC dI cJ cI cZ h aK aF aS aZ aL aP aC aH aE aM n sc np nc kg ft so pf pz (nI j) A) [.ref h, .int (nI j)].toArray s 0 0 A) (F0 m 48 ls []) := by
      intro fu_48
      induction fu_48 with
      | zero =>
        intro i v hi hv hfu_48 H locs ls hP hD hS hl
        exact absurd hfu_48 (by omega)
      | succ fu_48 ih_48 =>
        intro i v hi hv hfu_48 H locs ls hP hD hS hl
        refine lv_iload hx hb d_X_pay_48 (lv_at hl 3 rfl) ?_
        refine lv_aload_n hx hb d_X_pay_50 rfl (lv_at hl 0 rfl) ?_
        refine va_get (D := (dC, dI)) (ci := 0) (v := .int (nI np)) (C := R_X) (T := T_X) (N := 14) hx hb hts iT_X hown hK hP 0 rfl rfl 9 (by decide) (hts _ wd_15) (fun _ h9 => h9) rfl d_X_pay_51 ?_
        refine k_nge (tgt := 104) hx hb d_X_pay_54 (by decide) (by omega) (by omega) (fun c_54 => ?_) (fun c_54 => ?_)
        · refine lv_lload_n hx hb d_X_pay_104 rfl (lv_at hl 2 rfl) ?_
          exact k_lret (v := v) hx hb hr hlocks () (by unfold paA; rw [c_5, hcl, if_pos rfl, ← hv, payL_end c_54]) hP hD hK hS [0, 1, 2, 3, 4, 5] (by decide) rfl d_X_pay_105
        · refine lv_aload_n hx hb d_X_pay_57 rfl (lv_at hl 0 rfl) ?_
          refine va_get (D := (dC, dI)) (ci := 0) (v := .ref aF) (C := R_X) (T := T_X) (N := 14) hx hb hts iT_X hown hK hP 0 rfl rfl 1 (by decide) (hts _ wd_6) (fun _ h9 => h9) rfl d_X_pay_58 ?_
          refine lv_iload_n hx hb d_X_pay_61 rfl (lv_at hl 1 rfl) ?_
          refine k_lald (j := j) hx hb hK hP 2 0 rfl rfl (by omega) (by decide) d_X_pay_62 ?_
          refine lv_aload_n hx hb d_X_pay_63 rfl (lv_at hl 0 rfl) ?_
          refine va_get (D := (dC, dI)) (ci := 0) (v := .ref aP) (C := R_X) (T := T_X) (N := 14) hx hb hts iT_X hown hK hP 0 rfl rfl 7 (by decide) (hts _ wd_13) (fun _ h9 => h9) rfl d_X_pay_64 ?_
          refine lv_iload hx hb d_X_pay_67 (lv_at hl 3 rfl) ?_
          refine k_lald (j := i) hx hb hK hP 4 0 rfl rfl (by omega) (by decide) d_X_pay_69 ?_
          refine k_jge (tgt := 98) hx hb d_X_pay_70 d_X_pay_71 (by decide) (fun c_70 => ?_) (fun c_70 => ?_)
          · refine lv_iinc (v := nI (i + 1)) (lv' := [(4, .int (nI (i + 1))), (0, .ref h), (1, .int (nI j)), (2, .long v)]) hx hb d_X_pay_98 hl (k := 3) rfl (nI_add i 1) (by decide) rfl (fun ls hl => ?_)
            refine lv_goto (tgt := 48) hx hb d_X_pay_101 (by decide) ?_
            exact ih_48 (i + 1) v (by omega) (by rw [← hv, payL_go c_54]; unfold payS; first | (rw [if_pos c_70]; rfl) | (rw [if_neg (Int64.not_lt.mpr c_70)]; done)) (by omega) _ _ _ hP hD hS (lv_sub hl [1, 2, 3, 0] rfl)
          · refine lv_lconst (v := 0) hx hb d_X_pay_74 (by decide) ?_
            refine lv_lload_n hx hb d_X_pay_75 rfl (lv_at hl 2 rfl) ?_
            refine lv_aload_n hx hb d_X_pay_76 rfl (lv_at hl 0 rfl) ?_
            refine va_get (D := (dC, dI)) (ci := 0) (v := .ref aC) (C := R_X) (T := T_X) (N := 14) hx hb hts iT_X hown hK hP 0 rfl rfl 8 (by decide) (hts _ wd_14) (fun _ h9 => h9) rfl d_X_pay_77 ?_
            refine lv_iload hx hb d_X_pay_80 (lv_at hl 3 rfl) ?_
            refine k_lald (j := i) hx hb hK hP 5 0 rfl rfl (by omega) (by decide) d_X_pay_82 ?_
            refine lv_aload_n hx hb d_X_pay_83 rfl (lv_at hl 0 rfl) ?_
            refine va_get (D := (dC, dI)) (ci := 0) (v := .ref aK) (C := R_X) (T := T_X) (N := 14) hx hb hts iT_X hown hK hP 0 rfl rfl 0 (by decide) (hts _ wd_5) (fun _ h9 => h9) rfl d_X_pay_84 ?_
            refine lv_iload_n hx hb d_X_pay_87 rfl (lv_at hl 1 rfl) ?_
            refine k_lald (j := j) hx hb hK hP 1 0 rfl rfl (by omega) (by decide) d_X_pay_88 ?_
            refine lv_lmul hx hb d_X_pay_89 ?_
            refine k_calll (wr := [(h, .inr (0, [.ref aK, .ref aF, .ref aS, .ref aZ, .int (nI n), .ref aL, .int (nI sc), .ref aP, .ref aC, .int (nI np), .ref aH, .int (nI nc), .ref aE, .ref aM])), (aK, .inl (cJ, 60, .inr (.inl kg))), (aF, .inl (cJ, 60, .inr (.inl ft))), (aS, .inl (cJ, 60, .inr (.inl so))), (aP, .inl (cJ, 10, .inr (.inl pf))), (aC, .inl (cJ, 10, .inr (.inl pz)))]) (va_runS (As := [.long ((pz i) * (kg j))]) (rest := [.long v, .long 0]) ⟨hx, hb, hml, hown, hts⟩ (k_X_hundredthsRoundedUp l dC dI cJ cI cZ _ ((pz i) * (kg j))) (k_cs (y := y_X_hundredthsRoundedUp) (own := R_X) hts wd_198 wd_46 wd_197 wd_196 hd_X_hundredthsRoundedUp ⟨Nat.le_of_ble_eq_true rfl, Nat.le_of_ble_eq_true rfl⟩) (k_preS hP hD hK [] rfl (by decide)) rfl rfl hl.1 rfl (lv_room (Nat.le_of_ble_eq_true rfl)) d_X_pay_90 ⟨Nat.le_of_ble_eq_true rfl, Nat.le_of_ble_eq_true rfl⟩) hP hD hS hA [] [0, 1, 2, 3, 4, 5] rfl rfl (by decide) (by decide) (fun r_90 uu H locs hpo hP hD hS => ?_)
            have hpo : r_90 = (((pz i) * (kg j)) + 99) / 100 := hpo
            subst hpo
            have hP : va_P (dC, dI) vwCl [(h, .inr (0, [.ref aK, .ref aF, .ref aS, .ref aZ, .int (nI n), .ref aL, .int (nI sc), .ref aP, .ref aC, .int (nI np), .ref aH, .int (nI nc), .ref aE, .ref aM])), (aK, .inl (cJ, 60, .inr (.inl kg))), (aF, .inl (cJ, 60, .inr (.inl ft))), (aS, .inl (cJ, 60, .inr (.inl so))), (aP, .inl (cJ, 10, .inr (.inl pf))), (aC, .inl (cJ, 10, .inr (.inl pz)))] H := hP
            have hD : va_D A [(h, .inr (0, [.ref aK, .ref aF, .ref aS, .ref aZ, .int (nI n), .ref aL, .int (nI sc), .ref aP, .ref aC, .int (nI np), .ref aH, .int (nI nc), .ref aE, .ref aM])), (aK, .inl (cJ, 60, .inr (.inl kg))), (aF, .inl (cJ, 60, .inr (.inl ft))), (aS, .inl (cJ, 60, .inr (.inl so))), (aP, .inl (cJ, 10, .inr (.inl pf))), (aC, .inl (cJ, 10, .inr (.inl pz)))] := hD
            refine lv_lsub hx hb d_X_pay_93 ?_
            refine va_mmax_long hx hb (hml.trans hl.1.symm) hown (hts _ wd_168) (hts _ wd_170) (hts _ wd_85) (hts _ wd_169) (Nat.le_of_ble_eq_true rfl) (Nat.le_of_ble_eq_true rfl) (Nat.le_of_ble_eq_true rfl) (Nat.le_of_ble_eq_true rfl) d_X_pay_94 ?_
            refine lv_lstore_n (lv' := [(2, .long (if (v - ((((pz i) * (kg j)) + 99) / 100)) < 0 then 0 else (v - ((((pz i) * (kg j)) + 99) / 100)))), (0, .ref h), (1, .int (nI j)), (4, .int (nI i))]) hx hb d_X_pay_97 rfl hl (by decide) rfl (fun ls hl => ?_)
            refine lv_iinc (v := nI (i + 1)) (lv' := [(4, .int (nI (i + 1))), (2, .long (if (v - ((((pz i) * (kg j)) + 99) / 100)) < 0 then 0 else (v - ((((pz i) * (kg j)) + 99) / 100)))), (0, .ref h), (1, .int (nI j))]) hx hb d_X_pay_98 hl (k := 3) rfl (nI_add i 1) (by decide) rfl (fun ls hl => ?_)
            refine lv_goto (tgt := 48) hx hb d_X_pay_101 (by decide) ?_
            exact ih_48 (i + 1) (if (v - ((((pz i) * (kg j)) + 99) / 100)) < 0 then 0 else (v - ((((pz i) * (kg j)) + 99) / 100))) (by omega) (by rw [← hv, payL_go c_54]; unfold payS; first | (rw [if_pos c_70]; rfl) | (rw [if_neg (Int64.not_lt.mpr c_70)]; done)) (by omega) _ _ _ hP hD hS (lv_sub hl [2, 3, 1, 0] rfl)
    exact loop_48 (np + 1) 0 (((kg j) * ((4 * (ft j)) + (3 * (so j)))) / 1000) (by omega) rfl (by omega) _ _ _ (hP.sub [5, 0, 1, 2, 3, 4] rfl) (hD.sub [5, 0, 1, 2, 3, 4] (by decide) rfl) hS (lv_sub hl [2, 3, 1, 0] rfl)
  · refine lv_ldc2 (v := (-1)) hx hb hown (hts _ wd_52) d_X_pay_8 ?_
    exact k_lret (v := (-1)) hx hb hr hlocks () (by unfold paA; rw [c_5]; rfl) hP hD hK hS [5, 0, 1, 2, 3, 4] (by decide) rfl d_X_pay_11
/-- X_efficiency -/
abbrev q_X_efficiency (dC : Nat → ClassId) (dI : Nat → Nat → Nat) (cJ cI cZ : ClassId) (h : Nat) (aK : Nat) (aF : Nat) (aS : Nat) (aZ : Nat) (aL : Nat) (aP : Nat) (aC : Nat) (aH : Nat) (aE : Nat) (aM : Nat) (n : Nat) (sc : Nat) (np : Nat) (nc : Nat) (sA : Nat) (sF : Nat) (ra : Nat → Int64) (rf : Nat → Int64) (nr : Nat) (w : Int64) (a : Int64) (b : Int64) (A : Nat → Prop) : Array Value → State → Outcome → State → Prop := va_Qi (fun (r : Int32) (_ : Unit) => r = zI (efR w a b && putB ra nr w)) (kB (dC, dI) vwCl [(cJ, .long), (cI, .int), (cZ, .boolean)] A (fun (_ : Unit) => [(h, .inr (0, [.ref aK, .ref aF, .ref aS, .ref aZ, .int (nI n), .ref aL, .int (nI sc), .ref aP, .ref aC, .int (nI np), .ref aH, .int (nI nc), .ref aE, .ref aM])), (aE, .inr (2, [.ref sA, .ref sF, .int (nI (bN (efR w a b) (putN ra nr w) nr))])), (sA, .inl (cJ, 20, .inr (.inl (bL (efR w a b) (putA ra nr w) ra)))), (sF, .inl (cJ, 20, .inr (.inl (bL (efR w a b) (putF ra rf nr w (wpF a b)) rf))))])) A
set_option maxHeartbeats 4000000 in
set_option maxRecDepth 100000 in
theorem k_X_efficiency (l : Launch) (dC : Nat → ClassId) (dI : Nat → Nat → Nat) (cJ cI cZ : ClassId) (sz : Nat) (h : Nat) (aK : Nat) (aF : Nat) (aS : Nat) (aZ : Nat) (aL : Nat) (aP : Nat) (aC : Nat) (aH : Nat) (aE : Nat) (aM : Nat) (n : Nat) (sc : Nat) (np : Nat) (nc : Nat) (sA : Nat) (sF : Nat) (ra : Nat → Int64) (rf : Nat → Int64) (nr : Nat) (w : Int64) (a : Int64) (b : Int64) (hnr : nr ≤ 20) : Met l y_X_efficiency w_X_efficiency { frames := 2, cells := 0, slots := 0, locals := 50 } (kPc (dC, dI) vwCl [(cJ, .long), (cI, .int), (cZ, .boolean)] [(h, .inr (0, [.ref aK, .ref aF, .ref aS, .ref aZ, .int (nI n), .ref aL, .int (nI sc), .ref aP, .ref aC, .int (nI np), .ref aH, .int (nI nc), .ref aE, .ref aM])), (aE, .inr (2, [.ref sA, .ref sF, .int (nI nr)])), (sA, .inl (cJ, 20, .inr (.inl ra))), (sF, .inl (cJ, 20, .inr (.inl rf)))] sz [.ref h, .long w, .long a, .long b]) (q_X_efficiency dC dI cJ cI cZ h aK aF aS aZ aL aP aC aH aE aM n sc np nc sA sF ra rf nr w a b (va_A [(h, .inr (0, [.ref aK, .ref aF, .ref aS, .ref aZ, .int (nI n), .ref aL, .int (nI sc), .ref aP, .ref aC, .int (nI np), .ref aH, .int (nI nc), .ref aE, .ref aM])), (aE, .inr (2, [.ref sA, .ref sF, .int (nI nr)])), (sA, .inl (cJ, 20, .inr (.inl ra))), (sF, .inl (cJ, 20, .inr (.inl rf)))] sz)) 0 0 (va_A [(h, .inr (0, [.ref aK, .ref aF, .ref aS, .ref aZ, .int (nI n), .ref aL, .int (nI sc), .ref aP, .ref aC, .int (nI np), .ref aH, .int (nI nc), .ref aE, .ref aM])), (aE, .inr (2, [.ref sA, .ref sF, .int (nI nr)])), (sA, .inl (cJ, 20, .inr (.inl ra))), (sF, .inl (cJ, 20, .inr (.inl rf)))] sz) := by
  refine k_met (q_X_efficiency dC dI cJ cI cZ h aK aF aS aZ aL aP aC aH aE aM n sc np nc sA sF ra rf nr w a b) (by decide +kernel) rfl (Nat.le_of_ble_eq_true rfl) ?_
  intro p e s m below meth c A hx hb hr hml hown hts hlocks hin hA H hP hK hD hS ls hl
  have hl : lv_has ls 9 [(0, .ref h), (1, .long w), (3, .long a), (5, .long b)] := hl
  have hown : s.vm.findClass R_X = some m.cls := hown
  have hts : ∀ wW ∈ kT, wW.before [.ref h, .long w, .long a, .long b].toArray s = true := fun wW hW => hts wW (List.mem_cons_of_mem _ hW)
  refine lv_lload_n hx hb d_X_efficiency_0 rfl (lv_at hl 2 rfl) ?_
  refine lv_lload hx hb d_X_efficiency_1 (lv_at hl 3 rfl) ?_
  refine k_calll (wr := [(h, .inr (0, [.ref aK, .ref aF, .ref aS, .ref aZ, .int (nI n), .ref aL, .int (nI sc), .ref aP, .ref aC, .int (nI np), .ref aH, .int (nI nc), .ref aE, .ref aM])), (aE, .inr (2, [.ref sA, .ref sF, .int (nI nr)])), (sA, .inl (cJ, 20, .inr (.inl ra))), (sF, .inl (cJ, 20, .inr (.inl rf)))]) (va_runS (As := [.long a, .long b]) (rest := []) ⟨hx, hb, hml, hown, hts⟩ (k_X_wholeParts l dC dI cJ cI cZ _ a b) (k_cs (y := y_X_wholeParts) (own := R_X) hts wd_56 wd_46 wd_48 wd_47 hd_X_wholeParts ⟨Nat.le_of_ble_eq_true rfl, Nat.le_of_ble_eq_true rfl⟩) (k_preS hP hD hK [] rfl (by decide)) rfl rfl hl.1 rfl (lv_room (Nat.le_of_ble_eq_true rfl)) d_X_efficiency_3 ⟨Nat.le_of_ble_eq_true rfl, Nat.le_of_ble_eq_true rfl⟩) hP hD hS hA [] [0, 1, 2, 3] rfl rfl (by decide) (by decide) (fun r_3 uu H locs hpo hP hD hS => ?_)
  have hpo : r_3 = wpF a b := hpo
  subst hpo
  have hP : va_P (dC, dI) vwCl [(h, .inr (0, [.ref aK, .ref aF, .ref aS, .ref aZ, .int (nI n), .ref aL, .int (nI sc), .ref aP, .ref aC, .int (nI np), .ref aH, .int (nI nc), .ref aE, .ref aM])), (aE, .inr (2, [.ref sA, .ref sF, .int (nI nr)])), (sA, .inl (cJ, 20, .inr (.inl ra))), (sF, .inl (cJ, 20, .inr (.inl rf)))] H := hP
  have hD : va_D A [(h, .inr (0, [.ref aK, .ref aF, .ref aS, .ref aZ, .int (nI n), .ref aL, .int (nI sc), .ref aP, .ref aC, .int (nI np), .ref aH, .int (nI nc), .ref aE, .ref aM])), (aE, .inr (2, [.ref sA, .ref sF, .int (nI nr)])), (sA, .inl (cJ, 20, .inr (.inl ra))), (sF, .inl (cJ, 20, .inr (.inl rf)))] := hD
  refine lv_lstore (lv' := [(7, .long (wpF a b)), (0, .ref h), (1, .long w), (3, .long a), (5, .long b)]) hx hb d_X_efficiency_6 hl (by decide) rfl (fun ls hl => ?_)
  refine lv_lload_n hx hb d_X_efficiency_8 rfl (lv_at hl 2 rfl) ?_
  refine lv_lconst (v := 1) hx hb d_X_efficiency_9 (by decide) ?_
  refine lv_ldc2 (v := 1000000) hx hb hown (hts _ wd_49) d_X_efficiency_10 ?_
  refine k_calli (wr := [(h, .inr (0, [.ref aK, .ref aF, .ref aS, .ref aZ, .int (nI n), .ref aL, .int (nI sc), .ref aP, .ref aC, .int (nI np), .ref aH, .int (nI nc), .ref aE, .ref aM])), (aE, .inr (2, [.ref sA, .ref sF, .int (nI nr)])), (sA, .inl (cJ, 20, .inr (.inl ra))), (sF, .inl (cJ, 20, .inr (.inl rf)))]) (va_runS (As := [.long w, .long 1, .long 1000000]) (rest := []) ⟨hx, hb, hml, hown, hts⟩ (k_X_isWithin l dC dI cJ cI cZ _ w 1 1000000) (k_cs (y := y_X_isWithin) (own := R_X) hts wd_58 wd_46 wd_51 wd_50 hd_X_isWithin ⟨Nat.le_of_ble_eq_true rfl, Nat.le_of_ble_eq_true rfl⟩) (k_preS hP hD hK [] rfl (by decide)) rfl rfl hl.1 rfl (lv_room (Nat.le_of_ble_eq_true rfl)) d_X_efficiency_13 ⟨Nat.le_of_ble_eq_true rfl, Nat.le_of_ble_eq_true rfl⟩) hP hD hS hA [] [0, 1, 2, 3] rfl rfl (by decide) (by decide) (fun r_13 uu H locs hpo hP hD hS => ?_)
  have hpo : r_13 = zI (inB w 1 1000000) := hpo
  subst hpo
  have hP : va_P (dC, dI) vwCl [(h, .inr (0, [.ref aK, .ref aF, .ref aS, .ref aZ, .int (nI n), .ref aL, .int (nI sc), .ref aP, .ref aC, .int (nI np), .ref aH, .int (nI nc), .ref aE, .ref aM])), (aE, .inr (2, [.ref sA, .ref sF, .int (nI nr)])), (sA, .inl (cJ, 20, .inr (.inl ra))), (sF, .inl (cJ, 20, .inr (.inl rf)))] H := hP
  have hD : va_D A [(h, .inr (0, [.ref aK, .ref aF, .ref aS, .ref aZ, .int (nI n), .ref aL, .int (nI sc), .ref aP, .ref aC, .int (nI np), .ref aH, .int (nI nc), .ref aE, .ref aM])), (aE, .inr (2, [.ref sA, .ref sF, .int (nI nr)])), (sA, .inl (cJ, 20, .inr (.inl ra))), (sF, .inl (cJ, 20, .inr (.inl rf)))] := hD
  refine k_zeq (tgt := 28) hx hb d_X_efficiency_16 (by decide) (fun c_16 => ?_) (fun c_16 => ?_)
  · refine lv_iconst (v := nI 0) hx hb d_X_efficiency_28 (by decide) ?_
    have hY : efR w a b = false := by first | (unfold efR; rw [c_16]; rfl) | (unfold efR nP; rw [c_16, decide_eq_true c_24]; rfl)
    have fq_0 : bL (efR w a b) (putA ra nr w) ra = ra := bL_f hY
    have fq_1 : bL (efR w a b) (putF ra rf nr w (wpF a b)) rf = rf := bL_f hY
    have fq_2 : bN (efR w a b) (putN ra nr w) nr = nr := bN_f hY
    have hP : va_P (dC, dI) vwCl [(h, .inr (0, [.ref aK, .ref aF, .ref aS, .ref aZ, .int (nI n), .ref aL, .int (nI sc), .ref aP, .ref aC, .int (nI np), .ref aH, .int (nI nc), .ref aE, .ref aM])), (aE, .inr (2, [.ref sA, .ref sF, .int (nI (bN (efR w a b) (putN ra nr w) nr))])), (sA, .inl (cJ, 20, .inr (.inl (bL (efR w a b) (putA ra nr w) ra)))), (sF, .inl (cJ, 20, .inr (.inl (bL (efR w a b) (putF ra rf nr w (wpF a b)) rf))))] H := by rw [fq_0, fq_1, fq_2]; exact hP
    have hD : va_D A [(h, .inr (0, [.ref aK, .ref aF, .ref aS, .ref aZ, .int (nI n), .ref aL, .int (nI sc), .ref aP, .ref aC, .int (nI np), .ref aH, .int (nI nc), .ref aE, .ref aM])), (aE, .inr (2, [.ref sA, .ref sF, .int (nI (bN (efR w a b) (putN ra nr w) nr))])), (sA, .inl (cJ, 20, .inr (.inl (bL (efR w a b) (putA ra nr w) ra)))), (sF, .inl (cJ, 20, .inr (.inl (bL (efR w a b) (putF ra rf nr w (wpF a b)) rf))))] := by rw [fq_0, fq_1, fq_2]; exact hD
    exact k_zret (v := nI 0) hx hb hr hlocks rfl () (by rw [hY]; rfl) hP hD hK hS [0, 1, 2, 3] (by decide) rfl d_X_efficiency_29
  · refine lv_lload hx hb d_X_efficiency_19 (lv_at hl 0 rfl) ?_
    refine lv_ldc2 (v := (-1)) hx hb hown (hts _ wd_52) d_X_efficiency_21 ?_
    refine k_jne (tgt := 30) hx hb d_X_efficiency_24 d_X_efficiency_25 (by decide) (fun c_24 => ?_) (fun c_24 => ?_)
    · refine lv_aload_n hx hb d_X_efficiency_30 rfl (lv_at hl 1 rfl) ?_
      refine va_get (D := (dC, dI)) (ci := 0) (v := .ref aE) (C := R_X) (T := T_X) (N := 14) hx hb hts iT_X hown hK hP 0 rfl rfl 12 (by decide) (hts _ wd_23) (fun _ h9 => h9) rfl d_X_efficiency_31 ?_
      refine lv_lload_n hx hb d_X_efficiency_34 rfl (lv_at hl 2 rfl) ?_
      refine lv_lload hx hb d_X_efficiency_35 (lv_at hl 0 rfl) ?_
      refine k_calli (wr := [(h, .inr (0, [.ref aK, .ref aF, .ref aS, .ref aZ, .int (nI n), .ref aL, .int (nI sc), .ref aP, .ref aC, .int (nI np), .ref aH, .int (nI nc), .ref aE, .ref aM]))]) (va_runV (As := [.long w, .long (wpF a b)]) (rest := []) ⟨hx, hb, hml, hown, hts⟩ (k_S_put l dC dI cJ cI cZ _ aE sA sF ra rf nr w (wpF a b) (by omega)) (k_cw (y := y_S_put) (own := R_X) hts wd_205 wd_21 wd_204 wd_202 wd_203 hd_S_put ⟨Nat.le_of_ble_eq_true rfl, Nat.le_of_ble_eq_true rfl⟩) (k_preV (ci := 2) (q0 := 0) hP hD hK [1, 2, 3] rfl (by decide) rfl rfl) rfl rfl hl.1 rfl (lv_room (Nat.le_of_ble_eq_true rfl)) d_X_efficiency_37 ⟨Nat.le_of_ble_eq_true rfl, Nat.le_of_ble_eq_true rfl⟩) hP hD hS hA [1, 2, 3] [0] rfl rfl (by decide) (by decide) (fun r_37 uu H locs hpo hP hD hS => ?_)
      have hpo : r_37 = zI (putB ra nr w) := hpo
      subst hpo
      have hP : va_P (dC, dI) vwCl [(h, .inr (0, [.ref aK, .ref aF, .ref aS, .ref aZ, .int (nI n), .ref aL, .int (nI sc), .ref aP, .ref aC, .int (nI np), .ref aH, .int (nI nc), .ref aE, .ref aM])), (aE, .inr (2, [.ref sA, .ref sF, .int (nI (putN ra nr w))])), (sA, .inl (cJ, 20, .inr (.inl (putA ra nr w)))), (sF, .inl (cJ, 20, .inr (.inl (putF ra rf nr w (wpF a b)))))] H := hP
      have hD : va_D A [(h, .inr (0, [.ref aK, .ref aF, .ref aS, .ref aZ, .int (nI n), .ref aL, .int (nI sc), .ref aP, .ref aC, .int (nI np), .ref aH, .int (nI nc), .ref aE, .ref aM])), (aE, .inr (2, [.ref sA, .ref sF, .int (nI (putN ra nr w))])), (sA, .inl (cJ, 20, .inr (.inl (putA ra nr w)))), (sF, .inl (cJ, 20, .inr (.inl (putF ra rf nr w (wpF a b)))))] := hD
      have hY : efR w a b = true := by unfold efR nP; rw [c_16, decide_eq_false c_24]; rfl
      have fq_0 : bL (efR w a b) (putA ra nr w) ra = putA ra nr w := bL_t hY
      have fq_1 : bL (efR w a b) (putF ra rf nr w (wpF a b)) rf = putF ra rf nr w (wpF a b) := bL_t hY
      have fq_2 : bN (efR w a b) (putN ra nr w) nr = putN ra nr w := bN_t hY
      have hP : va_P (dC, dI) vwCl [(h, .inr (0, [.ref aK, .ref aF, .ref aS, .ref aZ, .int (nI n), .ref aL, .int (nI sc), .ref aP, .ref aC, .int (nI np), .ref aH, .int (nI nc), .ref aE, .ref aM])), (aE, .inr (2, [.ref sA, .ref sF, .int (nI (bN (efR w a b) (putN ra nr w) nr))])), (sA, .inl (cJ, 20, .inr (.inl (bL (efR w a b) (putA ra nr w) ra)))), (sF, .inl (cJ, 20, .inr (.inl (bL (efR w a b) (putF ra rf nr w (wpF a b)) rf))))] H := by rw [fq_0, fq_1, fq_2]; exact hP
      have hD : va_D A [(h, .inr (0, [.ref aK, .ref aF, .ref aS, .ref aZ, .int (nI n), .ref aL, .int (nI sc), .ref aP, .ref aC, .int (nI np), .ref aH, .int (nI nc), .ref aE, .ref aM])), (aE, .inr (2, [.ref sA, .ref sF, .int (nI (bN (efR w a b) (putN ra nr w) nr))])), (sA, .inl (cJ, 20, .inr (.inl (bL (efR w a b) (putA ra nr w) ra)))), (sF, .inl (cJ, 20, .inr (.inl (bL (efR w a b) (putF ra rf nr w (wpF a b)) rf))))] := by rw [fq_0, fq_1, fq_2]; exact hD
      exact k_zret (v := zI (putB ra nr w)) hx hb hr hlocks (k_zn _) () (by rw [hY]; rfl) hP hD hK hS [0, 1, 2, 3] (by decide) rfl d_X_efficiency_40
    · refine lv_iconst (v := nI 0) hx hb d_X_efficiency_28 (by decide) ?_
      have hY : efR w a b = false := by first | (unfold efR; rw [c_16]; rfl) | (unfold efR nP; rw [c_16, decide_eq_true c_24]; rfl)
      have fq_0 : bL (efR w a b) (putA ra nr w) ra = ra := bL_f hY
      have fq_1 : bL (efR w a b) (putF ra rf nr w (wpF a b)) rf = rf := bL_f hY
      have fq_2 : bN (efR w a b) (putN ra nr w) nr = nr := bN_f hY
      have hP : va_P (dC, dI) vwCl [(h, .inr (0, [.ref aK, .ref aF, .ref aS, .ref aZ, .int (nI n), .ref aL, .int (nI sc), .ref aP, .ref aC, .int (nI np), .ref aH, .int (nI nc), .ref aE, .ref aM])), (aE, .inr (2, [.ref sA, .ref sF, .int (nI (bN (efR w a b) (putN ra nr w) nr))])), (sA, .inl (cJ, 20, .inr (.inl (bL (efR w a b) (putA ra nr w) ra)))), (sF, .inl (cJ, 20, .inr (.inl (bL (efR w a b) (putF ra rf nr w (wpF a b)) rf))))] H := by rw [fq_0, fq_1, fq_2]; exact hP
      have hD : va_D A [(h, .inr (0, [.ref aK, .ref aF, .ref aS, .ref aZ, .int (nI n), .ref aL, .int (nI sc), .ref aP, .ref aC, .int (nI np), .ref aH, .int (nI nc), .ref aE, .ref aM])), (aE, .inr (2, [.ref sA, .ref sF, .int (nI (bN (efR w a b) (putN ra nr w) nr))])), (sA, .inl (cJ, 20, .inr (.inl (bL (efR w a b) (putA ra nr w) ra)))), (sF, .inl (cJ, 20, .inr (.inl (bL (efR w a b) (putF ra rf nr w (wpF a b)) rf))))] := by rw [fq_0, fq_1, fq_2]; exact hD
      exact k_zret (v := nI 0) hx hb hr hlocks rfl () (by rw [hY]; rfl) hP hD hK hS [0, 1, 2, 3] (by decide) rfl d_X_efficiency_29
/-- X_yieldAbove -/
abbrev q_X_yieldAbove (dC : Nat → ClassId) (dI : Nat → Nat → Nat) (cJ cI cZ : ClassId) (h : Nat) (aK : Nat) (aF : Nat) (aS : Nat) (aZ : Nat) (aL : Nat) (aP : Nat) (aC : Nat) (aH : Nat) (aE : Nat) (aM : Nat) (n : Nat) (sc : Nat) (np : Nat) (nc : Nat) (kg : Nat → Int64) (ft : Nat → Int64) (so : Nat → Int64) (j : Nat) (k : Nat) (A : Nat → Prop) : Array Value → State → Outcome → State → Prop := va_Ql (fun (r : Int64) (_ : Unit) => r = yaF (kg j) (ft j) (so j) k) (kB (dC, dI) vwCl [(cJ, .long), (cI, .int), (cZ, .boolean)] A (fun (_ : Unit) => [(h, .inr (0, [.ref aK, .ref aF, .ref aS, .ref aZ, .int (nI n), .ref aL, .int (nI sc), .ref aP, .ref aC, .int (nI np), .ref aH, .int (nI nc), .ref aE, .ref aM])), (aK, .inl (cJ, 60, .inr (.inl kg))), (aF, .inl (cJ, 60, .inr (.inl ft))), (aS, .inl (cJ, 60, .inr (.inl so)))])) A
set_option maxHeartbeats 4000000 in
set_option maxRecDepth 100000 in
theorem k_X_yieldAbove (l : Launch) (dC : Nat → ClassId) (dI : Nat → Nat → Nat) (cJ cI cZ : ClassId) (sz : Nat) (h : Nat) (aK : Nat) (aF : Nat) (aS : Nat) (aZ : Nat) (aL : Nat) (aP : Nat) (aC : Nat) (aH : Nat) (aE : Nat) (aM : Nat) (n : Nat) (sc : Nat) (np : Nat) (nc : Nat) (kg : Nat → Int64) (ft : Nat → Int64) (so : Nat → Int64) (j : Nat) (k : Nat) (hj : j < 60) (hk : k ≤ 2) : Met l y_X_yieldAbove w_X_yieldAbove { frames := 0, cells := 0, slots := 0, locals := 0 } (kPc (dC, dI) vwCl [(cJ, .long), (cI, .int), (cZ, .boolean)] [(h, .inr (0, [.ref aK, .ref aF, .ref aS, .ref aZ, .int (nI n), .ref aL, .int (nI sc), .ref aP, .ref aC, .int (nI np), .ref aH, .int (nI nc), .ref aE, .ref aM])), (aK, .inl (cJ, 60, .inr (.inl kg))), (aF, .inl (cJ, 60, .inr (.inl ft))), (aS, .inl (cJ, 60, .inr (.inl so)))] sz [.ref h, .int (nI j), .int (nI k)]) (q_X_yieldAbove dC dI cJ cI cZ h aK aF aS aZ aL aP aC aH aE aM n sc np nc kg ft so j k (va_A [(h, .inr (0, [.ref aK, .ref aF, .ref aS, .ref aZ, .int (nI n), .ref aL, .int (nI sc), .ref aP, .ref aC, .int (nI np), .ref aH, .int (nI nc), .ref aE, .ref aM])), (aK, .inl (cJ, 60, .inr (.inl kg))), (aF, .inl (cJ, 60, .inr (.inl ft))), (aS, .inl (cJ, 60, .inr (.inl so)))] sz)) 0 0 (va_A [(h, .inr (0, [.ref aK, .ref aF, .ref aS, .ref aZ, .int (nI n), .ref aL, .int (nI sc), .ref aP, .ref aC, .int (nI np), .ref aH, .int (nI nc), .ref aE, .ref aM])), (aK, .inl (cJ, 60, .inr (.inl kg))), (aF, .inl (cJ, 60, .inr (.inl ft))), (aS, .inl (cJ, 60, .inr (.inl so)))] sz) := by
  refine k_met (q_X_yieldAbove dC dI cJ cI cZ h aK aF aS aZ aL aP aC aH aE aM n sc np nc kg ft so j k) (by decide +kernel) rfl (Nat.le_of_ble_eq_true rfl) ?_
  intro p e s m below meth c A hx hb hr hml hown hts hlocks hin hA H hP hK hD hS ls hl
  have hl : lv_has ls 9 [(0, .ref h), (1, .int (nI j)), (2, .int (nI k))] := hl
  have hown : s.vm.findClass R_X = some m.cls := hown
  have hts : ∀ wW ∈ kT, wW.before [.ref h, .int (nI j), .int (nI k)].toArray s = true := fun wW hW => hts wW (List.mem_cons_of_mem _ hW)
  refine lv_aload_n hx hb d_X_yieldAbove_0 rfl (lv_at hl 0 rfl) ?_
  refine va_get (D := (dC, dI)) (ci := 0) (v := .ref aK) (C := R_X) (T := T_X) (N := 14) hx hb hts iT_X hown hK hP 0 rfl rfl 0 (by decide) (hts _ wd_5) (fun _ h9 => h9) rfl d_X_yieldAbove_1 ?_
  refine lv_iload_n hx hb d_X_yieldAbove_4 rfl (lv_at hl 1 rfl) ?_
  refine k_lald (j := j) hx hb hK hP 1 0 rfl rfl (by omega) (by decide) d_X_yieldAbove_5 ?_
  refine lv_lstore_n (lv' := [(3, .long (kg j)), (0, .ref h), (1, .int (nI j)), (2, .int (nI k))]) hx hb d_X_yieldAbove_6 rfl hl (by decide) rfl (fun ls hl => ?_)
  refine lv_aload_n hx hb d_X_yieldAbove_7 rfl (lv_at hl 1 rfl) ?_
  refine va_get (D := (dC, dI)) (ci := 0) (v := .ref aF) (C := R_X) (T := T_X) (N := 14) hx hb hts iT_X hown hK hP 0 rfl rfl 1 (by decide) (hts _ wd_6) (fun _ h9 => h9) rfl d_X_yieldAbove_8 ?_
  refine lv_iload_n hx hb d_X_yieldAbove_11 rfl (lv_at hl 2 rfl) ?_
  refine k_lald (j := j) hx hb hK hP 2 0 rfl rfl (by omega) (by decide) d_X_yieldAbove_12 ?_
  refine lv_lstore (lv' := [(5, .long (ft j)), (3, .long (kg j)), (0, .ref h), (1, .int (nI j)), (2, .int (nI k))]) hx hb d_X_yieldAbove_13 hl (by decide) rfl (fun ls hl => ?_)
  refine lv_aload_n hx hb d_X_yieldAbove_15 rfl (lv_at hl 2 rfl) ?_
  refine va_get (D := (dC, dI)) (ci := 0) (v := .ref aS) (C := R_X) (T := T_X) (N := 14) hx hb hts iT_X hown hK hP 0 rfl rfl 2 (by decide) (hts _ wd_7) (fun _ h9 => h9) rfl d_X_yieldAbove_16 ?_
  refine lv_iload_n hx hb d_X_yieldAbove_19 rfl (lv_at hl 3 rfl) ?_
  refine k_lald (j := j) hx hb hK hP 3 0 rfl rfl (by omega) (by decide) d_X_yieldAbove_20 ?_
  refine lv_lstore (lv' := [(7, .long (so j)), (5, .long (ft j)), (3, .long (kg j)), (0, .ref h), (1, .int (nI j)), (2, .int (nI k))]) hx hb d_X_yieldAbove_21 hl (by decide) rfl (fun ls hl => ?_)
  refine lv_iload_n hx hb d_X_yieldAbove_23 rfl (lv_at hl 5 rfl) ?_
  rcases (show k = 0 ∨ k = 1 ∨ k = 2 by omega) with hk0 | hk0 | hk0
  · subst hk0
    refine lv_lookup (off := 28) (tgt := 52) hx hb d_X_yieldAbove_24 (by decide) (by decide) (by decide) ?_
    refine lv_lload_n hx hb d_X_yieldAbove_52 rfl (lv_at hl 2 rfl) ?_
    refine lv_ldc2 (v := 93) hx hb hown (hts _ wd_181) d_X_yieldAbove_53 ?_
    refine lv_lload hx hb d_X_yieldAbove_56 (lv_at hl 1 rfl) ?_
    refine lv_lmul hx hb d_X_yieldAbove_58 ?_
    refine lv_ldc2 (v := 75) hx hb hown (hts _ wd_182) d_X_yieldAbove_59 ?_
    refine lv_lload hx hb d_X_yieldAbove_62 (lv_at hl 0 rfl) ?_
    refine lv_lmul hx hb d_X_yieldAbove_64 ?_
    refine lv_ladd hx hb d_X_yieldAbove_65 ?_
    refine lv_lmul hx hb d_X_yieldAbove_66 ?_
    refine lv_ldc2 (v := 109) hx hb hown (hts _ wd_183) d_X_yieldAbove_67 ?_
    refine lv_lmul hx hb d_X_yieldAbove_70 ?_
    exact k_lret (v := ((kg j) * ((93 * (ft j)) + (75 * (so j)))) * 109) hx hb hr hlocks () (by rfl) hP hD hK hS [0, 1, 2, 3] (by decide) rfl d_X_yieldAbove_71
  · subst hk0
    refine lv_lookup (off := 48) (tgt := 72) hx hb d_X_yieldAbove_24 (by decide) (by decide) (by decide) ?_
    refine lv_lload_n hx hb d_X_yieldAbove_72 rfl (lv_at hl 2 rfl) ?_
    refine lv_lload hx hb d_X_yieldAbove_73 (lv_at hl 1 rfl) ?_
    refine lv_lmul hx hb d_X_yieldAbove_75 ?_
    exact k_lret (v := (kg j) * (ft j)) hx hb hr hlocks () (by rfl) hP hD hK hS [0, 1, 2, 3] (by decide) rfl d_X_yieldAbove_76
  · subst hk0
    refine lv_lookup (off := 53) (tgt := 77) hx hb d_X_yieldAbove_24 (by decide) (by decide) (by decide) ?_
    refine lv_lload_n hx hb d_X_yieldAbove_77 rfl (lv_at hl 2 rfl) ?_
    refine lv_lload hx hb d_X_yieldAbove_78 (lv_at hl 1 rfl) ?_
    refine lv_lload hx hb d_X_yieldAbove_80 (lv_at hl 0 rfl) ?_
    refine lv_ladd hx hb d_X_yieldAbove_82 ?_
    refine lv_lmul hx hb d_X_yieldAbove_83 ?_
    exact k_lret (v := (kg j) * ((ft j) + (so j))) hx hb hr hlocks () (by rfl) hP hD hK hS [0, 1, 2, 3] (by decide) rfl d_X_yieldAbove_84
/-- X_yieldBelow -/
abbrev q_X_yieldBelow (dC : Nat → ClassId) (dI : Nat → Nat → Nat) (cJ cI cZ : ClassId) (k : Nat) (A : Nat → Prop) : Array Value → State → Outcome → State → Prop := va_Ql (fun (r : Int64) (_ : Unit) => r = ybF k) (kB (dC, dI) vwCl [(cJ, .long), (cI, .int), (cZ, .boolean)] A (fun (_ : Unit) => [])) A
set_option maxHeartbeats 4000000 in
set_option maxRecDepth 100000 in
theorem k_X_yieldBelow (l : Launch) (dC : Nat → ClassId) (dI : Nat → Nat → Nat) (cJ cI cZ : ClassId) (sz : Nat) (k : Nat) (hk : k ≤ 2) : Met l y_X_yieldBelow w_X_yieldBelow { frames := 0, cells := 0, slots := 0, locals := 0 } (kPc (dC, dI) vwCl [(cJ, .long), (cI, .int), (cZ, .boolean)] [] sz [.int (nI k)]) (q_X_yieldBelow dC dI cJ cI cZ k (va_A [] sz)) 0 0 (va_A [] sz) := by
  refine k_met (q_X_yieldBelow dC dI cJ cI cZ k) (by decide +kernel) rfl (Nat.le_of_ble_eq_true rfl) ?_
  intro p e s m below meth c A hx hb hr hml hown hts hlocks hin hA H hP hK hD hS ls hl
  have hl : lv_has ls 1 [(0, .int (nI k))] := hl
  have hown : s.vm.findClass R_X = some m.cls := hown
  have hts : ∀ wW ∈ kT, wW.before [.int (nI k)].toArray s = true := fun wW hW => hts wW (List.mem_cons_of_mem _ hW)
  refine lv_iload_n hx hb d_X_yieldBelow_0 rfl (lv_at hl 0 rfl) ?_
  rcases (show k = 0 ∨ k = 1 ∨ k = 2 by omega) with hk0 | hk0 | hk0
  · subst hk0
    refine lv_lookup (off := 27) (tgt := 28) hx hb d_X_yieldBelow_1 (by decide) (by decide) (by decide) ?_
    refine lv_ldc2 (v := 63000000) hx hb hown (hts _ wd_185) d_X_yieldBelow_28 ?_
    exact k_lret (v := 63000000) hx hb hr hlocks () (by rfl) hP hD hK hS [] (by decide) rfl d_X_yieldBelow_31
  · subst hk0
    refine lv_lookup (off := 31) (tgt := 32) hx hb d_X_yieldBelow_1 (by decide) (by decide) (by decide) ?_
    refine lv_ldc2 (v := 8200) hx hb hown (hts _ wd_186) d_X_yieldBelow_32 ?_
    exact k_lret (v := 8200) hx hb hr hlocks () (by rfl) hP hD hK hS [] (by decide) rfl d_X_yieldBelow_35
  · subst hk0
    refine lv_lookup (off := 35) (tgt := 36) hx hb d_X_yieldBelow_1 (by decide) (by decide) (by decide) ?_
    refine lv_ldc2 (v := 9700) hx hb hown (hts _ wd_187) d_X_yieldBelow_36 ?_
    exact k_lret (v := 9700) hx hb hr hlocks () (by rfl) hP hD hK hS [] (by decide) rfl d_X_yieldBelow_39
/-- X_yieldOf -/
abbrev q_X_yieldOf (dC : Nat → ClassId) (dI : Nat → Nat → Nat) (cJ cI cZ : ClassId) (h : Nat) (aK : Nat) (aF : Nat) (aS : Nat) (aZ : Nat) (aL : Nat) (aP : Nat) (aC : Nat) (aH : Nat) (aE : Nat) (aM : Nat) (n : Nat) (sc : Nat) (np : Nat) (nc : Nat) (kg : Nat → Int64) (ft : Nat → Int64) (so : Nat → Int64) (x : Int32) (kind : Int32) (part : Int32) (A : Nat → Prop) : Array Value → State → Outcome → State → Prop := va_Ql (fun (r : Int64) (_ : Unit) => r = yiA n kg ft so x kind part) (kB (dC, dI) vwCl [(cJ, .long), (cI, .int), (cZ, .boolean)] A (fun (_ : Unit) => [(h, .inr (0, [.ref aK, .ref aF, .ref aS, .ref aZ, .int (nI n), .ref aL, .int (nI sc), .ref aP, .ref aC, .int (nI np), .ref aH, .int (nI nc), .ref aE, .ref aM])), (aK, .inl (cJ, 60, .inr (.inl kg))), (aF, .inl (cJ, 60, .inr (.inl ft))), (aS, .inl (cJ, 60, .inr (.inl so)))])) A
set_option maxHeartbeats 4000000 in
set_option maxRecDepth 100000 in
theorem k_X_yieldOf (l : Launch) (dC : Nat → ClassId) (dI : Nat → Nat → Nat) (cJ cI cZ : ClassId) (sz : Nat) (h : Nat) (aK : Nat) (aF : Nat) (aS : Nat) (aZ : Nat) (aL : Nat) (aP : Nat) (aC : Nat) (aH : Nat) (aE : Nat) (aM : Nat) (n : Nat) (sc : Nat) (np : Nat) (nc : Nat) (kg : Nat → Int64) (ft : Nat → Int64) (so : Nat → Int64) (x : Int32) (kind : Int32) (part : Int32) (hn : n ≤ 60) (hyv : ∀ j k, j < n → k ≤ 2 → 0 ≤ (yaF (kg j) (ft j) (so j) k).toInt) : Met l y_X_yieldOf w_X_yieldOf { frames := 3, cells := 0, slots := 0, locals := 79 } (kPc (dC, dI) vwCl [(cJ, .long), (cI, .int), (cZ, .boolean)] [(h, .inr (0, [.ref aK, .ref aF, .ref aS, .ref aZ, .int (nI n), .ref aL, .int (nI sc), .ref aP, .ref aC, .int (nI np), .ref aH, .int (nI nc), .ref aE, .ref aM])), (aK, .inl (cJ, 60, .inr (.inl kg))), (aF, .inl (cJ, 60, .inr (.inl ft))), (aS, .inl (cJ, 60, .inr (.inl so)))] sz [.ref h, .int x, .int kind, .int part]) (q_X_yieldOf dC dI cJ cI cZ h aK aF aS aZ aL aP aC aH aE aM n sc np nc kg ft so x kind part (va_A [(h, .inr (0, [.ref aK, .ref aF, .ref aS, .ref aZ, .int (nI n), .ref aL, .int (nI sc), .ref aP, .ref aC, .int (nI np), .ref aH, .int (nI nc), .ref aE, .ref aM])), (aK, .inl (cJ, 60, .inr (.inl kg))), (aF, .inl (cJ, 60, .inr (.inl ft))), (aS, .inl (cJ, 60, .inr (.inl so)))] sz)) 0 0 (va_A [(h, .inr (0, [.ref aK, .ref aF, .ref aS, .ref aZ, .int (nI n), .ref aL, .int (nI sc), .ref aP, .ref aC, .int (nI np), .ref aH, .int (nI nc), .ref aE, .ref aM])), (aK, .inl (cJ, 60, .inr (.inl kg))), (aF, .inl (cJ, 60, .inr (.inl ft))), (aS, .inl (cJ, 60, .inr (.inl so)))] sz) := by
  refine k_met (q_X_yieldOf dC dI cJ cI cZ h aK aF aS aZ aL aP aC aH aE aM n sc np nc kg ft so x kind part) (by decide +kernel) rfl (Nat.le_of_ble_eq_true rfl) ?_
  intro p e s m below meth c A hx hb hr hml hown hts hlocks hin hA H hP hK hD hS ls hl
  have hl : lv_has ls 8 [(0, .ref h), (1, .int x), (2, .int kind), (3, .int part)] := hl
  have hown : s.vm.findClass R_X = some m.cls := hown
  have hts : ∀ wW ∈ kT, wW.before [.ref h, .int x, .int kind, .int part].toArray s = true := fun wW hW => hts wW (List.mem_cons_of_mem _ hW)
  refine lv_aload_n hx hb d_X_yieldOf_0 rfl (lv_at hl 0 rfl) ?_
  refine lv_iload_n hx hb d_X_yieldOf_1 rfl (lv_at hl 1 rfl) ?_
  refine k_calli (wr := [(aK, .inl (cJ, 60, .inr (.inl kg))), (aF, .inl (cJ, 60, .inr (.inl ft))), (aS, .inl (cJ, 60, .inr (.inl so)))]) (va_runV (As := [.int x]) (rest := []) ⟨hx, hb, hml, hown, hts⟩ (k_X_isLot l dC dI cJ cI cZ _ h aK aF aS aZ aL aP aC aH aE aM n sc np nc x) (k_cw (y := y_X_isLot) (own := R_X) hts wd_68 wd_46 wd_67 wd_65 wd_66 hd_X_isLot ⟨Nat.le_of_ble_eq_true rfl, Nat.le_of_ble_eq_true rfl⟩) (k_preV (ci := 0) (q0 := 0) hP hD hK [0] rfl (by decide) rfl rfl) rfl rfl hl.1 rfl (lv_room (Nat.le_of_ble_eq_true rfl)) d_X_yieldOf_2 ⟨Nat.le_of_ble_eq_true rfl, Nat.le_of_ble_eq_true rfl⟩) hP hD hS hA [0] [1, 2, 3] rfl rfl (by decide) (by decide) (fun r_2 uu H locs hpo hP hD hS => ?_)
  have hpo : r_2 = zI (lotB n x) := hpo
  subst hpo
  have hP : va_P (dC, dI) vwCl [(aK, .inl (cJ, 60, .inr (.inl kg))), (aF, .inl (cJ, 60, .inr (.inl ft))), (aS, .inl (cJ, 60, .inr (.inl so))), (h, .inr (0, [.ref aK, .ref aF, .ref aS, .ref aZ, .int (nI n), .ref aL, .int (nI sc), .ref aP, .ref aC, .int (nI np), .ref aH, .int (nI nc), .ref aE, .ref aM]))] H := hP
  have hD : va_D A [(aK, .inl (cJ, 60, .inr (.inl kg))), (aF, .inl (cJ, 60, .inr (.inl ft))), (aS, .inl (cJ, 60, .inr (.inl so))), (h, .inr (0, [.ref aK, .ref aF, .ref aS, .ref aZ, .int (nI n), .ref aL, .int (nI sc), .ref aP, .ref aC, .int (nI np), .ref aH, .int (nI nc), .ref aE, .ref aM]))] := hD
  refine k_zeq (tgt := 32) hx hb d_X_yieldOf_5 (by decide) (fun c_5 => ?_) (fun c_5 => ?_)
  · refine lv_ldc2 (v := (-1)) hx hb hown (hts _ wd_52) d_X_yieldOf_32 ?_
    exact k_lret (v := (-1)) hx hb hr hlocks () (by first | (unfold yiA yiR; rw [c_5]; rfl) | (unfold yiA yiR; rw [c_5, c_17]; rfl) | (unfold yiA yiR; rw [c_5, c_17, c_29]; rfl)) hP hD hK hS [3, 0, 1, 2] (by decide) rfl d_X_yieldOf_35
  · refine lv_iload_n hx hb d_X_yieldOf_8 rfl (lv_at hl 2 rfl) ?_
    refine lv_i2l hx hb d_X_yieldOf_9 rfl ?_
    refine lv_lconst (v := 0) hx hb d_X_yieldOf_10 (by decide) ?_
    refine lv_ldc2 (v := 2) hx hb hown (hts _ wd_172) d_X_yieldOf_11 ?_
    refine k_calli (wr := [(aK, .inl (cJ, 60, .inr (.inl kg))), (aF, .inl (cJ, 60, .inr (.inl ft))), (aS, .inl (cJ, 60, .inr (.inl so))), (h, .inr (0, [.ref aK, .ref aF, .ref aS, .ref aZ, .int (nI n), .ref aL, .int (nI sc), .ref aP, .ref aC, .int (nI np), .ref aH, .int (nI nc), .ref aE, .ref aM]))]) (va_runS (As := [.long kind.toInt64, .long 0, .long 2]) (rest := []) ⟨hx, hb, hml, hown, hts⟩ (k_X_isWithin l dC dI cJ cI cZ _ kind.toInt64 0 2) (k_cs (y := y_X_isWithin) (own := R_X) hts wd_58 wd_46 wd_51 wd_50 hd_X_isWithin ⟨Nat.le_of_ble_eq_true rfl, Nat.le_of_ble_eq_true rfl⟩) (k_preS hP hD hK [] rfl (by decide)) rfl rfl hl.1 rfl (lv_room (Nat.le_of_ble_eq_true rfl)) d_X_yieldOf_14 ⟨Nat.le_of_ble_eq_true rfl, Nat.le_of_ble_eq_true rfl⟩) hP hD hS hA [] [0, 1, 2, 3] rfl rfl (by decide) (by decide) (fun r_14 uu H locs hpo hP hD hS => ?_)
    have hpo : r_14 = zI (inB kind.toInt64 0 2) := hpo
    subst hpo
    have hP : va_P (dC, dI) vwCl [(aK, .inl (cJ, 60, .inr (.inl kg))), (aF, .inl (cJ, 60, .inr (.inl ft))), (aS, .inl (cJ, 60, .inr (.inl so))), (h, .inr (0, [.ref aK, .ref aF, .ref aS, .ref aZ, .int (nI n), .ref aL, .int (nI sc), .ref aP, .ref aC, .int (nI np), .ref aH, .int (nI nc), .ref aE, .ref aM]))] H := hP
    have hD : va_D A [(aK, .inl (cJ, 60, .inr (.inl kg))), (aF, .inl (cJ, 60, .inr (.inl ft))), (aS, .inl (cJ, 60, .inr (.inl so))), (h, .inr (0, [.ref aK, .ref aF, .ref aS, .ref aZ, .int (nI n), .ref aL, .int (nI sc), .ref aP, .ref aC, .int (nI np), .ref aH, .int (nI nc), .ref aE, .ref aM]))] := hD
    refine k_zeq (tgt := 32) hx hb d_X_yieldOf_17 (by decide) (fun c_17 => ?_) (fun c_17 => ?_)
    · refine lv_ldc2 (v := (-1)) hx hb hown (hts _ wd_52) d_X_yieldOf_32 ?_
      exact k_lret (v := (-1)) hx hb hr hlocks () (by first | (unfold yiA yiR; rw [c_5]; rfl) | (unfold yiA yiR; rw [c_5, c_17]; rfl) | (unfold yiA yiR; rw [c_5, c_17, c_29]; rfl)) hP hD hK hS [3, 0, 1, 2] (by decide) rfl d_X_yieldOf_35
    · refine lv_iload_n hx hb d_X_yieldOf_20 rfl (lv_at hl 3 rfl) ?_
      refine lv_i2l hx hb d_X_yieldOf_21 rfl ?_
      refine lv_lconst (v := 0) hx hb d_X_yieldOf_22 (by decide) ?_
      refine lv_ldc2 (v := 2) hx hb hown (hts _ wd_172) d_X_yieldOf_23 ?_
      refine k_calli (wr := [(aK, .inl (cJ, 60, .inr (.inl kg))), (aF, .inl (cJ, 60, .inr (.inl ft))), (aS, .inl (cJ, 60, .inr (.inl so))), (h, .inr (0, [.ref aK, .ref aF, .ref aS, .ref aZ, .int (nI n), .ref aL, .int (nI sc), .ref aP, .ref aC, .int (nI np), .ref aH, .int (nI nc), .ref aE, .ref aM]))]) (va_runS (As := [.long part.toInt64, .long 0, .long 2]) (rest := []) ⟨hx, hb, hml, hown, hts⟩ (k_X_isWithin l dC dI cJ cI cZ _ part.toInt64 0 2) (k_cs (y := y_X_isWithin) (own := R_X) hts wd_58 wd_46 wd_51 wd_50 hd_X_isWithin ⟨Nat.le_of_ble_eq_true rfl, Nat.le_of_ble_eq_true rfl⟩) (k_preS hP hD hK [] rfl (by decide)) rfl rfl hl.1 rfl (lv_room (Nat.le_of_ble_eq_true rfl)) d_X_yieldOf_26 ⟨Nat.le_of_ble_eq_true rfl, Nat.le_of_ble_eq_true rfl⟩) hP hD hS hA [] [0, 1, 2, 3] rfl rfl (by decide) (by decide) (fun r_26 uu H locs hpo hP hD hS => ?_)
      have hpo : r_26 = zI (inB part.toInt64 0 2) := hpo
      subst hpo
      have hP : va_P (dC, dI) vwCl [(aK, .inl (cJ, 60, .inr (.inl kg))), (aF, .inl (cJ, 60, .inr (.inl ft))), (aS, .inl (cJ, 60, .inr (.inl so))), (h, .inr (0, [.ref aK, .ref aF, .ref aS, .ref aZ, .int (nI n), .ref aL, .int (nI sc), .ref aP, .ref aC, .int (nI np), .ref aH, .int (nI nc), .ref aE, .ref aM]))] H := hP
      have hD : va_D A [(aK, .inl (cJ, 60, .inr (.inl kg))), (aF, .inl (cJ, 60, .inr (.inl ft))), (aS, .inl (cJ, 60, .inr (.inl so))), (h, .inr (0, [.ref aK, .ref aF, .ref aS, .ref aZ, .int (nI n), .ref aL, .int (nI sc), .ref aP, .ref aC, .int (nI np), .ref aH, .int (nI nc), .ref aE, .ref aM]))] := hD
      refine k_zne (tgt := 36) hx hb d_X_yieldOf_29 (by decide) (fun c_29 => ?_) (fun c_29 => ?_)
      · have hR : yiR n x kind part = true := by unfold yiR; rw [c_5, c_17, c_29]; rfl
        obtain ⟨j, hj, rfl⟩ := lotB_nat (by omega) c_5
        have hcl : (nI j).toNatClampNeg = j := nI_clamp (by omega)
        obtain ⟨k, hk, rfl⟩ := in02 c_17
        have hck : (nI k).toNatClampNeg = k := nI_clamp (by omega)
        have hpos := hyv j k hj hk
        refine lv_aload_n hx hb d_X_yieldOf_36 rfl (lv_at hl 0 rfl) ?_
        refine lv_iload_n hx hb d_X_yieldOf_37 rfl (lv_at hl 1 rfl) ?_
        refine lv_iload_n hx hb d_X_yieldOf_38 rfl (lv_at hl 2 rfl) ?_
        refine k_calll (wr := []) (va_runV (As := [.int (nI j), .int (nI k)]) (rest := []) ⟨hx, hb, hml, hown, hts⟩ (k_X_yieldAbove l dC dI cJ cI cZ _ h aK aF aS aZ aL aP aC aH aE aM n sc np nc kg ft so j k (by omega) (by omega)) (k_cw (y := y_X_yieldAbove) (own := R_X) hts wd_180 wd_46 wd_175 wd_173 wd_174 hd_X_yieldAbove ⟨Nat.le_of_ble_eq_true rfl, Nat.le_of_ble_eq_true rfl⟩) (k_preV (ci := 0) (q0 := 0) hP hD hK [3, 0, 1, 2] rfl (by decide) rfl rfl) rfl rfl hl.1 rfl (lv_room (Nat.le_of_ble_eq_true rfl)) d_X_yieldOf_39 ⟨Nat.le_of_ble_eq_true rfl, Nat.le_of_ble_eq_true rfl⟩) hP hD hS hA [3, 0, 1, 2] [] rfl rfl (by decide) (by decide) (fun r_39 uu H locs hpo hP hD hS => ?_)
        have hpo : r_39 = yaF (kg j) (ft j) (so j) k := hpo
        subst hpo
        have hP : va_P (dC, dI) vwCl [(h, .inr (0, [.ref aK, .ref aF, .ref aS, .ref aZ, .int (nI n), .ref aL, .int (nI sc), .ref aP, .ref aC, .int (nI np), .ref aH, .int (nI nc), .ref aE, .ref aM])), (aK, .inl (cJ, 60, .inr (.inl kg))), (aF, .inl (cJ, 60, .inr (.inl ft))), (aS, .inl (cJ, 60, .inr (.inl so)))] H := hP
        have hD : va_D A [(h, .inr (0, [.ref aK, .ref aF, .ref aS, .ref aZ, .int (nI n), .ref aL, .int (nI sc), .ref aP, .ref aC, .int (nI np), .ref aH, .int (nI nc), .ref aE, .ref aM])), (aK, .inl (cJ, 60, .inr (.inl kg))), (aF, .inl (cJ, 60, .inr (.inl ft))), (aS, .inl (cJ, 60, .inr (.inl so)))] := hD
        refine lv_lstore (lv' := [(4, .long (yaF (kg j) (ft j) (so j) k)), (0, .ref h), (1, .int (nI j)), (2, .int (nI k)), (3, .int part)]) hx hb d_X_yieldOf_42 hl (by decide) rfl (fun ls hl => ?_)
        refine lv_iload_n hx hb d_X_yieldOf_44 rfl (lv_at hl 3 rfl) ?_
        refine k_calll (wr := [(h, .inr (0, [.ref aK, .ref aF, .ref aS, .ref aZ, .int (nI n), .ref aL, .int (nI sc), .ref aP, .ref aC, .int (nI np), .ref aH, .int (nI nc), .ref aE, .ref aM])), (aK, .inl (cJ, 60, .inr (.inl kg))), (aF, .inl (cJ, 60, .inr (.inl ft))), (aS, .inl (cJ, 60, .inr (.inl so)))]) (va_runS (As := [.int (nI k)]) (rest := []) ⟨hx, hb, hml, hown, hts⟩ (k_X_yieldBelow l dC dI cJ cI cZ _ k (by omega)) (k_cs (y := y_X_yieldBelow) (own := R_X) hts wd_184 wd_46 wd_177 wd_176 hd_X_yieldBelow ⟨Nat.le_of_ble_eq_true rfl, Nat.le_of_ble_eq_true rfl⟩) (k_preS hP hD hK [] rfl (by decide)) rfl rfl hl.1 rfl (lv_room (Nat.le_of_ble_eq_true rfl)) d_X_yieldOf_45 ⟨Nat.le_of_ble_eq_true rfl, Nat.le_of_ble_eq_true rfl⟩) hP hD hS hA [] [0, 1, 2, 3] rfl rfl (by decide) (by decide) (fun r_45 uu H locs hpo hP hD hS => ?_)
        have hpo : r_45 = ybF k := hpo
        subst hpo
        have hP : va_P (dC, dI) vwCl [(h, .inr (0, [.ref aK, .ref aF, .ref aS, .ref aZ, .int (nI n), .ref aL, .int (nI sc), .ref aP, .ref aC, .int (nI np), .ref aH, .int (nI nc), .ref aE, .ref aM])), (aK, .inl (cJ, 60, .inr (.inl kg))), (aF, .inl (cJ, 60, .inr (.inl ft))), (aS, .inl (cJ, 60, .inr (.inl so)))] H := hP
        have hD : va_D A [(h, .inr (0, [.ref aK, .ref aF, .ref aS, .ref aZ, .int (nI n), .ref aL, .int (nI sc), .ref aP, .ref aC, .int (nI np), .ref aH, .int (nI nc), .ref aE, .ref aM])), (aK, .inl (cJ, 60, .inr (.inl kg))), (aF, .inl (cJ, 60, .inr (.inl ft))), (aS, .inl (cJ, 60, .inr (.inl so)))] := hD
        refine lv_lstore (lv' := [(6, .long (ybF k)), (4, .long (yaF (kg j) (ft j) (so j) k)), (0, .ref h), (1, .int (nI j)), (2, .int (nI k)), (3, .int part)]) hx hb d_X_yieldOf_48 hl (by decide) rfl (fun ls hl => ?_)
        refine lv_iload_n hx hb d_X_yieldOf_50 rfl (lv_at hl 5 rfl) ?_
        refine lv_iconst (v := nI 2) hx hb d_X_yieldOf_51 (by decide) ?_
        refine lv_icmp_ne (tgt := 65) hx hb d_X_yieldOf_52 (by decide) (fun c_52 => ?_) (fun c_52 => ?_)
        · refine lv_lload hx hb d_X_yieldOf_65 (lv_at hl 1 rfl) ?_
          refine k_tol (y := lN (yaF (kg j) (ft j) (so j) k).toInt.toNat) (lN_self hpos) ?_
          refine lv_lload hx hb d_X_yieldOf_67 (lv_at hl 0 rfl) ?_
          refine k_tol (y := lN (ybF k).toInt.toNat) (yb_self hk) ?_
          refine lv_iload_n hx hb d_X_yieldOf_69 rfl (lv_at hl 5 rfl) ?_
          refine k_calll (wr := [(h, .inr (0, [.ref aK, .ref aF, .ref aS, .ref aZ, .int (nI n), .ref aL, .int (nI sc), .ref aP, .ref aC, .int (nI np), .ref aH, .int (nI nc), .ref aE, .ref aM])), (aK, .inl (cJ, 60, .inr (.inl kg))), (aF, .inl (cJ, 60, .inr (.inl ft))), (aS, .inl (cJ, 60, .inr (.inl so)))]) (va_runS (As := [.long (lN (yaF (kg j) (ft j) (so j) k).toInt.toNat), .long (lN (ybF k).toInt.toNat), .int part]) (rest := []) ⟨hx, hb, hml, hown, hts⟩ (k_X_reducedPart l dC dI cJ cI cZ _ ((yaF (kg j) (ft j) (so j) k).toInt.toNat) ((ybF k).toInt.toNat) part (toNat_lt _) (yb_lt hk) (yb_gcd _ hk)) (k_cs (y := y_X_reducedPart) (own := R_X) hts wd_164 wd_46 wd_160 wd_159 hd_X_reducedPart ⟨Nat.le_of_ble_eq_true rfl, Nat.le_of_ble_eq_true rfl⟩) (k_preS hP hD hK [] rfl (by decide)) rfl rfl hl.1 rfl (lv_room (Nat.le_of_ble_eq_true rfl)) d_X_yieldOf_70 ⟨Nat.le_of_ble_eq_true rfl, Nat.le_of_ble_eq_true rfl⟩) hP hD hS hA [] [0, 1, 2, 3] rfl rfl (by decide) (by decide) (fun r_70 uu H locs hpo hP hD hS => ?_)
          have hpo : r_70 = rpF ((yaF (kg j) (ft j) (so j) k).toInt.toNat) ((ybF k).toInt.toNat) part := hpo
          subst hpo
          have hP : va_P (dC, dI) vwCl [(h, .inr (0, [.ref aK, .ref aF, .ref aS, .ref aZ, .int (nI n), .ref aL, .int (nI sc), .ref aP, .ref aC, .int (nI np), .ref aH, .int (nI nc), .ref aE, .ref aM])), (aK, .inl (cJ, 60, .inr (.inl kg))), (aF, .inl (cJ, 60, .inr (.inl ft))), (aS, .inl (cJ, 60, .inr (.inl so)))] H := hP
          have hD : va_D A [(h, .inr (0, [.ref aK, .ref aF, .ref aS, .ref aZ, .int (nI n), .ref aL, .int (nI sc), .ref aP, .ref aC, .int (nI np), .ref aH, .int (nI nc), .ref aE, .ref aM])), (aK, .inl (cJ, 60, .inr (.inl kg))), (aF, .inl (cJ, 60, .inr (.inl ft))), (aS, .inl (cJ, 60, .inr (.inl so)))] := hD
          exact k_lret (v := rpF ((yaF (kg j) (ft j) (so j) k).toInt.toNat) ((ybF k).toInt.toNat) part) hx hb hr hlocks () (by first | (unfold yiA; rw [hR, hcl, hck, if_pos rfl, if_pos c_52]; done) | (unfold yiA; rw [hR, hcl, hck, if_pos rfl, if_neg c_52]; done)) hP hD hK hS [0, 1, 2, 3] (by decide) rfl d_X_yieldOf_73
        · refine lv_lload hx hb d_X_yieldOf_55 (lv_at hl 1 rfl) ?_
          refine lv_lload hx hb d_X_yieldOf_57 (lv_at hl 0 rfl) ?_
          refine k_calll (wr := [(h, .inr (0, [.ref aK, .ref aF, .ref aS, .ref aZ, .int (nI n), .ref aL, .int (nI sc), .ref aP, .ref aC, .int (nI np), .ref aH, .int (nI nc), .ref aE, .ref aM])), (aK, .inl (cJ, 60, .inr (.inl kg))), (aF, .inl (cJ, 60, .inr (.inl ft))), (aS, .inl (cJ, 60, .inr (.inl so)))]) (va_runS (As := [.long (yaF (kg j) (ft j) (so j) k), .long (ybF k)]) (rest := []) ⟨hx, hb, hml, hown, hts⟩ (k_X_gramsOf l dC dI cJ cI cZ _ (yaF (kg j) (ft j) (so j) k) (ybF k) (yb_ne hk)) (k_cs (y := y_X_gramsOf) (own := R_X) hts wd_188 wd_46 wd_179 wd_178 hd_X_gramsOf ⟨Nat.le_of_ble_eq_true rfl, Nat.le_of_ble_eq_true rfl⟩) (k_preS hP hD hK [] rfl (by decide)) rfl rfl hl.1 rfl (lv_room (Nat.le_of_ble_eq_true rfl)) d_X_yieldOf_59 ⟨Nat.le_of_ble_eq_true rfl, Nat.le_of_ble_eq_true rfl⟩) hP hD hS hA [] [0, 1, 2, 3] rfl rfl (by decide) (by decide) (fun r_59 uu H locs hpo hP hD hS => ?_)
          have hpo : r_59 = (2000 * (yaF (kg j) (ft j) (so j) k) + (ybF k)) / (2 * (ybF k)) := hpo
          subst hpo
          have hP : va_P (dC, dI) vwCl [(h, .inr (0, [.ref aK, .ref aF, .ref aS, .ref aZ, .int (nI n), .ref aL, .int (nI sc), .ref aP, .ref aC, .int (nI np), .ref aH, .int (nI nc), .ref aE, .ref aM])), (aK, .inl (cJ, 60, .inr (.inl kg))), (aF, .inl (cJ, 60, .inr (.inl ft))), (aS, .inl (cJ, 60, .inr (.inl so)))] H := hP
          have hD : va_D A [(h, .inr (0, [.ref aK, .ref aF, .ref aS, .ref aZ, .int (nI n), .ref aL, .int (nI sc), .ref aP, .ref aC, .int (nI np), .ref aH, .int (nI nc), .ref aE, .ref aM])), (aK, .inl (cJ, 60, .inr (.inl kg))), (aF, .inl (cJ, 60, .inr (.inl ft))), (aS, .inl (cJ, 60, .inr (.inl so)))] := hD
          refine lv_goto (tgt := 73) hx hb d_X_yieldOf_62 (by decide) ?_
          exact k_lret (v := (2000 * (yaF (kg j) (ft j) (so j) k) + (ybF k)) / (2 * (ybF k))) hx hb hr hlocks () (by first | (unfold yiA; rw [hR, hcl, hck, if_pos rfl, if_pos c_52]; done) | (unfold yiA; rw [hR, hcl, hck, if_pos rfl, if_neg c_52]; done)) hP hD hK hS [0, 1, 2, 3] (by decide) rfl d_X_yieldOf_73
      · refine lv_ldc2 (v := (-1)) hx hb hown (hts _ wd_52) d_X_yieldOf_32 ?_
        exact k_lret (v := (-1)) hx hb hr hlocks () (by first | (unfold yiA yiR; rw [c_5]; rfl) | (unfold yiA yiR; rw [c_5, c_17]; rfl) | (unfold yiA yiR; rw [c_5, c_17, c_29]; rfl)) hP hD hK hS [3, 0, 1, 2] (by decide) rfl d_X_yieldOf_35
/-- X_share -/
abbrev q_X_share (dC : Nat → ClassId) (dI : Nat → Nat → Nat) (cJ cI cZ : ClassId) (h : Nat) (aK : Nat) (aF : Nat) (aS : Nat) (aZ : Nat) (aL : Nat) (aP : Nat) (aC : Nat) (aH : Nat) (aE : Nat) (aM : Nat) (n : Nat) (sc : Nat) (np : Nat) (nc : Nat) (mL : Nat) (mF : Nat) (mS : Nat) (mT : Nat) (mB : Nat) (ml : Nat → Int32) (mn : Nat) (mf : Nat → Int64) (ms : Nat → Int64) (u : MixS) (x : Int32) (part : Int32) (A : Nat → Prop) : Array Value → State → Outcome → State → Prop := va_Ql (fun (r : Int64) (_ : Unit) => r = shA n ml mn u x part) (kB (dC, dI) vwCl [(cJ, .long), (cI, .int), (cZ, .boolean)] A (fun (_ : Unit) => [(h, .inr (0, [.ref aK, .ref aF, .ref aS, .ref aZ, .int (nI n), .ref aL, .int (nI sc), .ref aP, .ref aC, .int (nI np), .ref aH, .int (nI nc), .ref aE, .ref aM])), (aM, .inr (1, [.ref mL, .int (nI mn), .ref mF, .ref mS, .ref mT, .long u.2.1, .ref mB, .long u.2.2.2.1, .int (zI u.2.2.2.2)])), (mL, .inl (cI, 4, .inl ml)), (mF, .inl (cJ, 5, .inr (.inl mf))), (mS, .inl (cJ, 5, .inr (.inl ms))), (mT, .inl (cJ, 4, .inr (.inl u.1))), (mB, .inl (cJ, 4, .inr (.inl u.2.2.1)))])) A
set_option maxHeartbeats 4000000 in
set_option maxRecDepth 100000 in
theorem k_X_share (l : Launch) (dC : Nat → ClassId) (dI : Nat → Nat → Nat) (cJ cI cZ : ClassId) (sz : Nat) (h : Nat) (aK : Nat) (aF : Nat) (aS : Nat) (aZ : Nat) (aL : Nat) (aP : Nat) (aC : Nat) (aH : Nat) (aE : Nat) (aM : Nat) (n : Nat) (sc : Nat) (np : Nat) (nc : Nat) (mL : Nat) (mF : Nat) (mS : Nat) (mT : Nat) (mB : Nat) (ml : Nat → Int32) (mn : Nat) (mf : Nat → Int64) (ms : Nat → Int64) (u : MixS) (x : Int32) (part : Int32) (hmn : mn ≤ 4) (hmx : u.2.2.2.2 = true → (∀ x, 0 ≤ (abF ml mn u.2.2.1 x).toInt) ∧ 0 < u.2.2.2.1.toInt ∧ u.2.2.2.1.toInt < 2 ^ 50) : Met l y_X_share w_X_share { frames := 3, cells := 0, slots := 0, locals := 79 } (kPc (dC, dI) vwCl [(cJ, .long), (cI, .int), (cZ, .boolean)] [(h, .inr (0, [.ref aK, .ref aF, .ref aS, .ref aZ, .int (nI n), .ref aL, .int (nI sc), .ref aP, .ref aC, .int (nI np), .ref aH, .int (nI nc), .ref aE, .ref aM])), (aM, .inr (1, [.ref mL, .int (nI mn), .ref mF, .ref mS, .ref mT, .long u.2.1, .ref mB, .long u.2.2.2.1, .int (zI u.2.2.2.2)])), (mL, .inl (cI, 4, .inl ml)), (mF, .inl (cJ, 5, .inr (.inl mf))), (mS, .inl (cJ, 5, .inr (.inl ms))), (mT, .inl (cJ, 4, .inr (.inl u.1))), (mB, .inl (cJ, 4, .inr (.inl u.2.2.1)))] sz [.ref h, .int x, .int part]) (q_X_share dC dI cJ cI cZ h aK aF aS aZ aL aP aC aH aE aM n sc np nc mL mF mS mT mB ml mn mf ms u x part (va_A [(h, .inr (0, [.ref aK, .ref aF, .ref aS, .ref aZ, .int (nI n), .ref aL, .int (nI sc), .ref aP, .ref aC, .int (nI np), .ref aH, .int (nI nc), .ref aE, .ref aM])), (aM, .inr (1, [.ref mL, .int (nI mn), .ref mF, .ref mS, .ref mT, .long u.2.1, .ref mB, .long u.2.2.2.1, .int (zI u.2.2.2.2)])), (mL, .inl (cI, 4, .inl ml)), (mF, .inl (cJ, 5, .inr (.inl mf))), (mS, .inl (cJ, 5, .inr (.inl ms))), (mT, .inl (cJ, 4, .inr (.inl u.1))), (mB, .inl (cJ, 4, .inr (.inl u.2.2.1)))] sz)) 0 0 (va_A [(h, .inr (0, [.ref aK, .ref aF, .ref aS, .ref aZ, .int (nI n), .ref aL, .int (nI sc), .ref aP, .ref aC, .int (nI np), .ref aH, .int (nI nc), .ref aE, .ref aM])), (aM, .inr (1, [.ref mL, .int (nI mn), .ref mF, .ref mS, .ref mT, .long u.2.1, .ref mB, .long u.2.2.2.1, .int (zI u.2.2.2.2)])), (mL, .inl (cI, 4, .inl ml)), (mF, .inl (cJ, 5, .inr (.inl mf))), (mS, .inl (cJ, 5, .inr (.inl ms))), (mT, .inl (cJ, 4, .inr (.inl u.1))), (mB, .inl (cJ, 4, .inr (.inl u.2.2.1)))] sz) := by
  refine k_met (q_X_share dC dI cJ cI cZ h aK aF aS aZ aL aP aC aH aE aM n sc np nc mL mF mS mT mB ml mn mf ms u x part) (by decide +kernel) rfl (Nat.le_of_ble_eq_true rfl) ?_
  intro p e s m below meth c A hx hb hr hml hown hts hlocks hin hA H hP hK hD hS ls hl
  have hl : lv_has ls 3 [(0, .ref h), (1, .int x), (2, .int part)] := hl
  have hown : s.vm.findClass R_X = some m.cls := hown
  have hts : ∀ wW ∈ kT, wW.before [.ref h, .int x, .int part].toArray s = true := fun wW hW => hts wW (List.mem_cons_of_mem _ hW)
  refine lv_aload_n hx hb d_X_share_0 rfl (lv_at hl 0 rfl) ?_
  refine va_get (D := (dC, dI)) (ci := 0) (v := .ref aM) (C := R_X) (T := T_X) (N := 14) hx hb hts iT_X hown hK hP 0 rfl rfl 13 (by decide) (hts _ wd_28) (fun _ h9 => h9) rfl d_X_share_1 ?_
  refine k_calli (wr := [(h, .inr (0, [.ref aK, .ref aF, .ref aS, .ref aZ, .int (nI n), .ref aL, .int (nI sc), .ref aP, .ref aC, .int (nI np), .ref aH, .int (nI nc), .ref aE, .ref aM]))]) (va_runV (As := []) (rest := []) ⟨hx, hb, hml, hown, hts⟩ (k_M_isMet l dC dI cJ cI cZ _ aM mL mF mS mT mB ml mn mf ms u) (k_cw (y := y_M_isMet) (own := R_X) hts wd_161 wd_26 wd_152 wd_150 wd_151 hd_M_isMet ⟨Nat.le_of_ble_eq_true rfl, Nat.le_of_ble_eq_true rfl⟩) (k_preV (ci := 1) (q0 := 0) hP hD hK [1, 2, 3, 4, 5, 6] rfl (by decide) rfl rfl) rfl rfl hl.1 rfl (lv_room (Nat.le_of_ble_eq_true rfl)) d_X_share_4 ⟨Nat.le_of_ble_eq_true rfl, Nat.le_of_ble_eq_true rfl⟩) hP hD hS hA [1, 2, 3, 4, 5, 6] [0] rfl rfl (by decide) (by decide) (fun r_4 uu H locs hpo hP hD hS => ?_)
  have hpo : r_4 = zI u.2.2.2.2 := hpo
  subst hpo
  have hP : va_P (dC, dI) vwCl [(h, .inr (0, [.ref aK, .ref aF, .ref aS, .ref aZ, .int (nI n), .ref aL, .int (nI sc), .ref aP, .ref aC, .int (nI np), .ref aH, .int (nI nc), .ref aE, .ref aM])), (aM, .inr (1, [.ref mL, .int (nI mn), .ref mF, .ref mS, .ref mT, .long u.2.1, .ref mB, .long u.2.2.2.1, .int (zI u.2.2.2.2)])), (mL, .inl (cI, 4, .inl ml)), (mF, .inl (cJ, 5, .inr (.inl mf))), (mS, .inl (cJ, 5, .inr (.inl ms))), (mT, .inl (cJ, 4, .inr (.inl u.1))), (mB, .inl (cJ, 4, .inr (.inl u.2.2.1)))] H := hP
  have hD : va_D A [(h, .inr (0, [.ref aK, .ref aF, .ref aS, .ref aZ, .int (nI n), .ref aL, .int (nI sc), .ref aP, .ref aC, .int (nI np), .ref aH, .int (nI nc), .ref aE, .ref aM])), (aM, .inr (1, [.ref mL, .int (nI mn), .ref mF, .ref mS, .ref mT, .long u.2.1, .ref mB, .long u.2.2.2.1, .int (zI u.2.2.2.2)])), (mL, .inl (cI, 4, .inl ml)), (mF, .inl (cJ, 5, .inr (.inl mf))), (mS, .inl (cJ, 5, .inr (.inl ms))), (mT, .inl (cJ, 4, .inr (.inl u.1))), (mB, .inl (cJ, 4, .inr (.inl u.2.2.1)))] := hD
  refine k_zeq (tgt := 28) hx hb d_X_share_7 (by decide) (fun c_7 => ?_) (fun c_7 => ?_)
  · refine lv_ldc2 (v := (-1)) hx hb hown (hts _ wd_52) d_X_share_28 ?_
    exact k_lret (v := (-1)) hx hb hr hlocks () (by first | (unfold shA shR; rw [c_7]; rfl) | (unfold shA shR; rw [c_7, c_15]; rfl) | (unfold shA shR; rw [c_7, c_15, c_25]; rfl)) hP hD hK hS [0, 1, 2, 3, 4, 5, 6] (by decide) rfl d_X_share_31
  · refine lv_aload_n hx hb d_X_share_10 rfl (lv_at hl 0 rfl) ?_
    refine lv_iload_n hx hb d_X_share_11 rfl (lv_at hl 1 rfl) ?_
    refine k_calli (wr := [(aM, .inr (1, [.ref mL, .int (nI mn), .ref mF, .ref mS, .ref mT, .long u.2.1, .ref mB, .long u.2.2.2.1, .int (zI u.2.2.2.2)])), (mL, .inl (cI, 4, .inl ml)), (mF, .inl (cJ, 5, .inr (.inl mf))), (mS, .inl (cJ, 5, .inr (.inl ms))), (mT, .inl (cJ, 4, .inr (.inl u.1))), (mB, .inl (cJ, 4, .inr (.inl u.2.2.1)))]) (va_runV (As := [.int x]) (rest := []) ⟨hx, hb, hml, hown, hts⟩ (k_X_isLot l dC dI cJ cI cZ _ h aK aF aS aZ aL aP aC aH aE aM n sc np nc x) (k_cw (y := y_X_isLot) (own := R_X) hts wd_68 wd_46 wd_67 wd_65 wd_66 hd_X_isLot ⟨Nat.le_of_ble_eq_true rfl, Nat.le_of_ble_eq_true rfl⟩) (k_preV (ci := 0) (q0 := 0) hP hD hK [0] rfl (by decide) rfl rfl) rfl rfl hl.1 rfl (lv_room (Nat.le_of_ble_eq_true rfl)) d_X_share_12 ⟨Nat.le_of_ble_eq_true rfl, Nat.le_of_ble_eq_true rfl⟩) hP hD hS hA [0] [1, 2, 3, 4, 5, 6] rfl rfl (by decide) (by decide) (fun r_12 uu H locs hpo hP hD hS => ?_)
    have hpo : r_12 = zI (lotB n x) := hpo
    subst hpo
    have hP : va_P (dC, dI) vwCl [(aM, .inr (1, [.ref mL, .int (nI mn), .ref mF, .ref mS, .ref mT, .long u.2.1, .ref mB, .long u.2.2.2.1, .int (zI u.2.2.2.2)])), (mL, .inl (cI, 4, .inl ml)), (mF, .inl (cJ, 5, .inr (.inl mf))), (mS, .inl (cJ, 5, .inr (.inl ms))), (mT, .inl (cJ, 4, .inr (.inl u.1))), (mB, .inl (cJ, 4, .inr (.inl u.2.2.1))), (h, .inr (0, [.ref aK, .ref aF, .ref aS, .ref aZ, .int (nI n), .ref aL, .int (nI sc), .ref aP, .ref aC, .int (nI np), .ref aH, .int (nI nc), .ref aE, .ref aM]))] H := hP
    have hD : va_D A [(aM, .inr (1, [.ref mL, .int (nI mn), .ref mF, .ref mS, .ref mT, .long u.2.1, .ref mB, .long u.2.2.2.1, .int (zI u.2.2.2.2)])), (mL, .inl (cI, 4, .inl ml)), (mF, .inl (cJ, 5, .inr (.inl mf))), (mS, .inl (cJ, 5, .inr (.inl ms))), (mT, .inl (cJ, 4, .inr (.inl u.1))), (mB, .inl (cJ, 4, .inr (.inl u.2.2.1))), (h, .inr (0, [.ref aK, .ref aF, .ref aS, .ref aZ, .int (nI n), .ref aL, .int (nI sc), .ref aP, .ref aC, .int (nI np), .ref aH, .int (nI nc), .ref aE, .ref aM]))] := hD
    refine k_zeq (tgt := 28) hx hb d_X_share_15 (by decide) (fun c_15 => ?_) (fun c_15 => ?_)
    · refine lv_ldc2 (v := (-1)) hx hb hown (hts _ wd_52) d_X_share_28 ?_
      exact k_lret (v := (-1)) hx hb hr hlocks () (by first | (unfold shA shR; rw [c_7]; rfl) | (unfold shA shR; rw [c_7, c_15]; rfl) | (unfold shA shR; rw [c_7, c_15, c_25]; rfl)) hP hD hK hS [6, 0, 1, 2, 3, 4, 5] (by decide) rfl d_X_share_31
    · refine lv_iload_n hx hb d_X_share_18 rfl (lv_at hl 2 rfl) ?_
      refine lv_i2l hx hb d_X_share_19 rfl ?_
      refine lv_lconst (v := 0) hx hb d_X_share_20 (by decide) ?_
      refine lv_lconst (v := 1) hx hb d_X_share_21 (by decide) ?_
      refine k_calli (wr := [(aM, .inr (1, [.ref mL, .int (nI mn), .ref mF, .ref mS, .ref mT, .long u.2.1, .ref mB, .long u.2.2.2.1, .int (zI u.2.2.2.2)])), (mL, .inl (cI, 4, .inl ml)), (mF, .inl (cJ, 5, .inr (.inl mf))), (mS, .inl (cJ, 5, .inr (.inl ms))), (mT, .inl (cJ, 4, .inr (.inl u.1))), (mB, .inl (cJ, 4, .inr (.inl u.2.2.1))), (h, .inr (0, [.ref aK, .ref aF, .ref aS, .ref aZ, .int (nI n), .ref aL, .int (nI sc), .ref aP, .ref aC, .int (nI np), .ref aH, .int (nI nc), .ref aE, .ref aM]))]) (va_runS (As := [.long part.toInt64, .long 0, .long 1]) (rest := []) ⟨hx, hb, hml, hown, hts⟩ (k_X_isWithin l dC dI cJ cI cZ _ part.toInt64 0 1) (k_cs (y := y_X_isWithin) (own := R_X) hts wd_58 wd_46 wd_51 wd_50 hd_X_isWithin ⟨Nat.le_of_ble_eq_true rfl, Nat.le_of_ble_eq_true rfl⟩) (k_preS hP hD hK [] rfl (by decide)) rfl rfl hl.1 rfl (lv_room (Nat.le_of_ble_eq_true rfl)) d_X_share_22 ⟨Nat.le_of_ble_eq_true rfl, Nat.le_of_ble_eq_true rfl⟩) hP hD hS hA [] [0, 1, 2, 3, 4, 5, 6] rfl rfl (by decide) (by decide) (fun r_22 uu H locs hpo hP hD hS => ?_)
      have hpo : r_22 = zI (inB part.toInt64 0 1) := hpo
      subst hpo
      have hP : va_P (dC, dI) vwCl [(aM, .inr (1, [.ref mL, .int (nI mn), .ref mF, .ref mS, .ref mT, .long u.2.1, .ref mB, .long u.2.2.2.1, .int (zI u.2.2.2.2)])), (mL, .inl (cI, 4, .inl ml)), (mF, .inl (cJ, 5, .inr (.inl mf))), (mS, .inl (cJ, 5, .inr (.inl ms))), (mT, .inl (cJ, 4, .inr (.inl u.1))), (mB, .inl (cJ, 4, .inr (.inl u.2.2.1))), (h, .inr (0, [.ref aK, .ref aF, .ref aS, .ref aZ, .int (nI n), .ref aL, .int (nI sc), .ref aP, .ref aC, .int (nI np), .ref aH, .int (nI nc), .ref aE, .ref aM]))] H := hP
      have hD : va_D A [(aM, .inr (1, [.ref mL, .int (nI mn), .ref mF, .ref mS, .ref mT, .long u.2.1, .ref mB, .long u.2.2.2.1, .int (zI u.2.2.2.2)])), (mL, .inl (cI, 4, .inl ml)), (mF, .inl (cJ, 5, .inr (.inl mf))), (mS, .inl (cJ, 5, .inr (.inl ms))), (mT, .inl (cJ, 4, .inr (.inl u.1))), (mB, .inl (cJ, 4, .inr (.inl u.2.2.1))), (h, .inr (0, [.ref aK, .ref aF, .ref aS, .ref aZ, .int (nI n), .ref aL, .int (nI sc), .ref aP, .ref aC, .int (nI np), .ref aH, .int (nI nc), .ref aE, .ref aM]))] := hD
      refine k_zne (tgt := 32) hx hb d_X_share_25 (by decide) (fun c_25 => ?_) (fun c_25 => ?_)
      · have hR : shR n u x part = true := by unfold shR; rw [c_7, c_15, c_25]; rfl
        obtain ⟨hm1, hm2, hm3⟩ := hmx c_7
        refine lv_aload_n hx hb d_X_share_32 rfl (lv_at hl 0 rfl) ?_
        refine va_get (D := (dC, dI)) (ci := 0) (v := .ref aM) (C := R_X) (T := T_X) (N := 14) hx hb hts iT_X hown hK hP 6 rfl rfl 13 (by decide) (hts _ wd_28) (fun _ h9 => h9) rfl d_X_share_33 ?_
        refine lv_iload_n hx hb d_X_share_36 rfl (lv_at hl 1 rfl) ?_
        refine k_calll (wr := [(h, .inr (0, [.ref aK, .ref aF, .ref aS, .ref aZ, .int (nI n), .ref aL, .int (nI sc), .ref aP, .ref aC, .int (nI np), .ref aH, .int (nI nc), .ref aE, .ref aM]))]) (va_runV (As := [.int x]) (rest := []) ⟨hx, hb, hml, hown, hts⟩ (k_M_aboveOf l dC dI cJ cI cZ _ aM mL mF mS mT mB ml mn mf ms u x (by omega)) (k_cw (y := y_M_aboveOf) (own := R_X) hts wd_162 wd_26 wd_155 wd_153 wd_154 hd_M_aboveOf ⟨Nat.le_of_ble_eq_true rfl, Nat.le_of_ble_eq_true rfl⟩) (k_preV (ci := 1) (q0 := 0) hP hD hK [0, 1, 2, 3, 4, 5] rfl (by decide) rfl rfl) rfl rfl hl.1 rfl (lv_room (Nat.le_of_ble_eq_true rfl)) d_X_share_37 ⟨Nat.le_of_ble_eq_true rfl, Nat.le_of_ble_eq_true rfl⟩) hP hD hS hA [0, 1, 2, 3, 4, 5] [6] rfl rfl (by decide) (by decide) (fun r_37 uu H locs hpo hP hD hS => ?_)
        have hpo : r_37 = abF ml mn u.2.2.1 x := hpo
        subst hpo
        have hP : va_P (dC, dI) vwCl [(h, .inr (0, [.ref aK, .ref aF, .ref aS, .ref aZ, .int (nI n), .ref aL, .int (nI sc), .ref aP, .ref aC, .int (nI np), .ref aH, .int (nI nc), .ref aE, .ref aM])), (aM, .inr (1, [.ref mL, .int (nI mn), .ref mF, .ref mS, .ref mT, .long u.2.1, .ref mB, .long u.2.2.2.1, .int (zI u.2.2.2.2)])), (mL, .inl (cI, 4, .inl ml)), (mF, .inl (cJ, 5, .inr (.inl mf))), (mS, .inl (cJ, 5, .inr (.inl ms))), (mT, .inl (cJ, 4, .inr (.inl u.1))), (mB, .inl (cJ, 4, .inr (.inl u.2.2.1)))] H := hP
        have hD : va_D A [(h, .inr (0, [.ref aK, .ref aF, .ref aS, .ref aZ, .int (nI n), .ref aL, .int (nI sc), .ref aP, .ref aC, .int (nI np), .ref aH, .int (nI nc), .ref aE, .ref aM])), (aM, .inr (1, [.ref mL, .int (nI mn), .ref mF, .ref mS, .ref mT, .long u.2.1, .ref mB, .long u.2.2.2.1, .int (zI u.2.2.2.2)])), (mL, .inl (cI, 4, .inl ml)), (mF, .inl (cJ, 5, .inr (.inl mf))), (mS, .inl (cJ, 5, .inr (.inl ms))), (mT, .inl (cJ, 4, .inr (.inl u.1))), (mB, .inl (cJ, 4, .inr (.inl u.2.2.1)))] := hD
        refine k_tol (y := lN (abF ml mn u.2.2.1 x).toInt.toNat) (lN_self (hm1 x)) ?_
        refine lv_aload_n hx hb d_X_share_40 rfl (lv_at hl 0 rfl) ?_
        refine va_get (D := (dC, dI)) (ci := 0) (v := .ref aM) (C := R_X) (T := T_X) (N := 14) hx hb hts iT_X hown hK hP 0 rfl rfl 13 (by decide) (hts _ wd_28) (fun _ h9 => h9) rfl d_X_share_41 ?_
        refine k_calll (wr := [(h, .inr (0, [.ref aK, .ref aF, .ref aS, .ref aZ, .int (nI n), .ref aL, .int (nI sc), .ref aP, .ref aC, .int (nI np), .ref aH, .int (nI nc), .ref aE, .ref aM]))]) (va_runV (As := []) (rest := [.long (lN (abF ml mn u.2.2.1 x).toInt.toNat)]) ⟨hx, hb, hml, hown, hts⟩ (k_M_belowOfAll l dC dI cJ cI cZ _ aM mL mF mS mT mB ml mn mf ms u) (k_cw (y := y_M_belowOfAll) (own := R_X) hts wd_163 wd_26 wd_158 wd_156 wd_157 hd_M_belowOfAll ⟨Nat.le_of_ble_eq_true rfl, Nat.le_of_ble_eq_true rfl⟩) (k_preV (ci := 1) (q0 := 0) hP hD hK [1, 2, 3, 4, 5, 6] rfl (by decide) rfl rfl) rfl rfl hl.1 rfl (lv_room (Nat.le_of_ble_eq_true rfl)) d_X_share_44 ⟨Nat.le_of_ble_eq_true rfl, Nat.le_of_ble_eq_true rfl⟩) hP hD hS hA [1, 2, 3, 4, 5, 6] [0] rfl rfl (by decide) (by decide) (fun r_44 uu H locs hpo hP hD hS => ?_)
        have hpo : r_44 = u.2.2.2.1 := hpo
        subst hpo
        have hP : va_P (dC, dI) vwCl [(h, .inr (0, [.ref aK, .ref aF, .ref aS, .ref aZ, .int (nI n), .ref aL, .int (nI sc), .ref aP, .ref aC, .int (nI np), .ref aH, .int (nI nc), .ref aE, .ref aM])), (aM, .inr (1, [.ref mL, .int (nI mn), .ref mF, .ref mS, .ref mT, .long u.2.1, .ref mB, .long u.2.2.2.1, .int (zI u.2.2.2.2)])), (mL, .inl (cI, 4, .inl ml)), (mF, .inl (cJ, 5, .inr (.inl mf))), (mS, .inl (cJ, 5, .inr (.inl ms))), (mT, .inl (cJ, 4, .inr (.inl u.1))), (mB, .inl (cJ, 4, .inr (.inl u.2.2.1)))] H := hP
        have hD : va_D A [(h, .inr (0, [.ref aK, .ref aF, .ref aS, .ref aZ, .int (nI n), .ref aL, .int (nI sc), .ref aP, .ref aC, .int (nI np), .ref aH, .int (nI nc), .ref aE, .ref aM])), (aM, .inr (1, [.ref mL, .int (nI mn), .ref mF, .ref mS, .ref mT, .long u.2.1, .ref mB, .long u.2.2.2.1, .int (zI u.2.2.2.2)])), (mL, .inl (cI, 4, .inl ml)), (mF, .inl (cJ, 5, .inr (.inl mf))), (mS, .inl (cJ, 5, .inr (.inl ms))), (mT, .inl (cJ, 4, .inr (.inl u.1))), (mB, .inl (cJ, 4, .inr (.inl u.2.2.1)))] := hD
        refine k_tol (y := lN u.2.2.2.1.toInt.toNat) (lN_self (by omega)) ?_
        refine lv_iload_n hx hb d_X_share_47 rfl (lv_at hl 2 rfl) ?_
        refine k_calll (wr := [(h, .inr (0, [.ref aK, .ref aF, .ref aS, .ref aZ, .int (nI n), .ref aL, .int (nI sc), .ref aP, .ref aC, .int (nI np), .ref aH, .int (nI nc), .ref aE, .ref aM])), (aM, .inr (1, [.ref mL, .int (nI mn), .ref mF, .ref mS, .ref mT, .long u.2.1, .ref mB, .long u.2.2.2.1, .int (zI u.2.2.2.2)])), (mL, .inl (cI, 4, .inl ml)), (mF, .inl (cJ, 5, .inr (.inl mf))), (mS, .inl (cJ, 5, .inr (.inl ms))), (mT, .inl (cJ, 4, .inr (.inl u.1))), (mB, .inl (cJ, 4, .inr (.inl u.2.2.1)))]) (va_runS (As := [.long (lN (abF ml mn u.2.2.1 x).toInt.toNat), .long (lN u.2.2.2.1.toInt.toNat), .int part]) (rest := []) ⟨hx, hb, hml, hown, hts⟩ (k_X_reducedPart l dC dI cJ cI cZ _ ((abF ml mn u.2.2.1 x).toInt.toNat) u.2.2.2.1.toInt.toNat part (toNat_lt _) (by omega) (gcd_lt _ (by omega) (by omega))) (k_cs (y := y_X_reducedPart) (own := R_X) hts wd_164 wd_46 wd_160 wd_159 hd_X_reducedPart ⟨Nat.le_of_ble_eq_true rfl, Nat.le_of_ble_eq_true rfl⟩) (k_preS hP hD hK [] rfl (by decide)) rfl rfl hl.1 rfl (lv_room (Nat.le_of_ble_eq_true rfl)) d_X_share_48 ⟨Nat.le_of_ble_eq_true rfl, Nat.le_of_ble_eq_true rfl⟩) hP hD hS hA [] [0, 1, 2, 3, 4, 5, 6] rfl rfl (by decide) (by decide) (fun r_48 uu H locs hpo hP hD hS => ?_)
        have hpo : r_48 = rpF ((abF ml mn u.2.2.1 x).toInt.toNat) u.2.2.2.1.toInt.toNat part := hpo
        subst hpo
        have hP : va_P (dC, dI) vwCl [(h, .inr (0, [.ref aK, .ref aF, .ref aS, .ref aZ, .int (nI n), .ref aL, .int (nI sc), .ref aP, .ref aC, .int (nI np), .ref aH, .int (nI nc), .ref aE, .ref aM])), (aM, .inr (1, [.ref mL, .int (nI mn), .ref mF, .ref mS, .ref mT, .long u.2.1, .ref mB, .long u.2.2.2.1, .int (zI u.2.2.2.2)])), (mL, .inl (cI, 4, .inl ml)), (mF, .inl (cJ, 5, .inr (.inl mf))), (mS, .inl (cJ, 5, .inr (.inl ms))), (mT, .inl (cJ, 4, .inr (.inl u.1))), (mB, .inl (cJ, 4, .inr (.inl u.2.2.1)))] H := hP
        have hD : va_D A [(h, .inr (0, [.ref aK, .ref aF, .ref aS, .ref aZ, .int (nI n), .ref aL, .int (nI sc), .ref aP, .ref aC, .int (nI np), .ref aH, .int (nI nc), .ref aE, .ref aM])), (aM, .inr (1, [.ref mL, .int (nI mn), .ref mF, .ref mS, .ref mT, .long u.2.1, .ref mB, .long u.2.2.2.1, .int (zI u.2.2.2.2)])), (mL, .inl (cI, 4, .inl ml)), (mF, .inl (cJ, 5, .inr (.inl mf))), (mS, .inl (cJ, 5, .inr (.inl ms))), (mT, .inl (cJ, 4, .inr (.inl u.1))), (mB, .inl (cJ, 4, .inr (.inl u.2.2.1)))] := hD
        exact k_lret (v := rpF ((abF ml mn u.2.2.1 x).toInt.toNat) u.2.2.2.1.toInt.toNat part) hx hb hr hlocks () (by unfold shA; rw [hR, if_pos rfl]) hP hD hK hS [0, 1, 2, 3, 4, 5, 6] (by decide) rfl d_X_share_51
      · refine lv_ldc2 (v := (-1)) hx hb hown (hts _ wd_52) d_X_share_28 ?_
        exact k_lret (v := (-1)) hx hb hr hlocks () (by first | (unfold shA shR; rw [c_7]; rfl) | (unfold shA shR; rw [c_7, c_15]; rfl) | (unfold shA shR; rw [c_7, c_15, c_25]; rfl)) hP hD hK hS [6, 0, 1, 2, 3, 4, 5] (by decide) rfl d_X_share_31
