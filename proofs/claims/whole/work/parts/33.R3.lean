/-- R_yieldOf -/
abbrev q_R_yieldOf (dC : Nat → ClassId) (dI : Nat → Nat → Nat) (cJ cI cZ : ClassId) (h : Nat) (aK : Nat) (aF : Nat) (aS : Nat) (aZ : Nat) (aL : Nat) (aH : Nat) (sA : Nat) (sF : Nat) (aP : Nat) (aC : Nat) (mL : Nat) (mA : Nat) (tr : Nat) (n : Nat) (sc : Nat) (nc : Nat) (nr : Nat) (np : Nat) (mt : Bool) (mb : Int64) (mc : Nat) (kg : Nat → Int64) (ft : Nat → Int64) (so : Nat → Int64) (x : Int32) (kind : Int32) (part : Int32) (A : Nat → Prop) : Array Value → State → Outcome → State → Prop := va_Ql (fun (r : Int64) (_ : Unit) => r = yiA n kg ft so x kind part) (kB (dC, dI) vwCl [(cJ, .long), (cI, .int), (cZ, .boolean)] A (fun (_ : Unit) => [(h, .inr (3, [.ref aK, .ref aF, .ref aS, .ref aZ, .int (nI n), .ref aL, .int (nI sc), .ref aH, .int (nI nc), .ref sA, .ref sF, .int (nI nr), .ref aP, .ref aC, .int (nI np), .int (zI mt), .ref mL, .ref mA, .long mb, .int (nI mc), .ref tr])), (aK, .inl (cJ, 60, .inr (.inl kg))), (aF, .inl (cJ, 60, .inr (.inl ft))), (aS, .inl (cJ, 60, .inr (.inl so)))])) A
set_option maxHeartbeats 4000000 in
set_option maxRecDepth 100000 in
theorem k_R_yieldOf (l : Launch) (dC : Nat → ClassId) (dI : Nat → Nat → Nat) (cJ cI cZ : ClassId) (sz : Nat) (h : Nat) (aK : Nat) (aF : Nat) (aS : Nat) (aZ : Nat) (aL : Nat) (aH : Nat) (sA : Nat) (sF : Nat) (aP : Nat) (aC : Nat) (mL : Nat) (mA : Nat) (tr : Nat) (n : Nat) (sc : Nat) (nc : Nat) (nr : Nat) (np : Nat) (mt : Bool) (mb : Int64) (mc : Nat) (kg : Nat → Int64) (ft : Nat → Int64) (so : Nat → Int64) (x : Int32) (kind : Int32) (part : Int32) (hn : n ≤ 60) (hyv : ∀ j k, j < n → k ≤ 2 → 0 ≤ (yaF (kg j) (ft j) (so j) k).toInt) : Met l y_R_yieldOf w_R_yieldOf { frames := 1, cells := 0, slots := 0, locals := 30 } (kPc (dC, dI) vwCl [(cJ, .long), (cI, .int), (cZ, .boolean)] [(h, .inr (3, [.ref aK, .ref aF, .ref aS, .ref aZ, .int (nI n), .ref aL, .int (nI sc), .ref aH, .int (nI nc), .ref sA, .ref sF, .int (nI nr), .ref aP, .ref aC, .int (nI np), .int (zI mt), .ref mL, .ref mA, .long mb, .int (nI mc), .ref tr])), (aK, .inl (cJ, 60, .inr (.inl kg))), (aF, .inl (cJ, 60, .inr (.inl ft))), (aS, .inl (cJ, 60, .inr (.inl so)))] sz [.ref h, .int x, .int kind, .int part]) (q_R_yieldOf dC dI cJ cI cZ h aK aF aS aZ aL aH sA sF aP aC mL mA tr n sc nc nr np mt mb mc kg ft so x kind part (va_A [(h, .inr (3, [.ref aK, .ref aF, .ref aS, .ref aZ, .int (nI n), .ref aL, .int (nI sc), .ref aH, .int (nI nc), .ref sA, .ref sF, .int (nI nr), .ref aP, .ref aC, .int (nI np), .int (zI mt), .ref mL, .ref mA, .long mb, .int (nI mc), .ref tr])), (aK, .inl (cJ, 60, .inr (.inl kg))), (aF, .inl (cJ, 60, .inr (.inl ft))), (aS, .inl (cJ, 60, .inr (.inl so)))] sz)) 0 0 (va_A [(h, .inr (3, [.ref aK, .ref aF, .ref aS, .ref aZ, .int (nI n), .ref aL, .int (nI sc), .ref aH, .int (nI nc), .ref sA, .ref sF, .int (nI nr), .ref aP, .ref aC, .int (nI np), .int (zI mt), .ref mL, .ref mA, .long mb, .int (nI mc), .ref tr])), (aK, .inl (cJ, 60, .inr (.inl kg))), (aF, .inl (cJ, 60, .inr (.inl ft))), (aS, .inl (cJ, 60, .inr (.inl so)))] sz) := by
  refine k_met (q_R_yieldOf dC dI cJ cI cZ h aK aF aS aZ aL aH sA sF aP aC mL mA tr n sc nc nr np mt mb mc kg ft so x kind part) (by decide +kernel) rfl (Nat.le_of_ble_eq_true rfl) ?_
  intro p e s m below meth c A hx hb hr hml hown hts hlocks hin hA H hP hK hD hS ls hl
  have hl : lv_has ls 14 [(0, .ref h), (1, .int x), (2, .int kind), (3, .int part)] := hl
  have hown : s.vm.findClass R_R = some m.cls := hown
  have hts : ∀ wW ∈ kT, wW.before [.ref h, .int x, .int kind, .int part].toArray s = true := fun wW hW => hts wW (List.mem_cons_of_mem _ hW)
  refine lv_aload_n hx hb d_R_yieldOf_0 rfl (lv_at hl 0 rfl) ?_
  refine lv_iload_n hx hb d_R_yieldOf_1 rfl (lv_at hl 1 rfl) ?_
  refine k_calli (wr := [(aK, .inl (cJ, 60, .inr (.inl kg))), (aF, .inl (cJ, 60, .inr (.inl ft))), (aS, .inl (cJ, 60, .inr (.inl so)))]) (va_runV (As := [.int x]) (rest := []) ⟨hx, hb, hml, hown, hts⟩ (k_R_isLot l dC dI cJ cI cZ _ h aK aF aS aZ aL aH sA sF aP aC mL mA tr n sc nc nr np mt mb mc x) (k_cw (y := y_R_isLot) (own := R_R) hts wd_239 wd_224 wd_238 wd_236 wd_237 hd_R_isLot ⟨Nat.le_of_ble_eq_true rfl, Nat.le_of_ble_eq_true rfl⟩) (k_preV (ci := 3) (q0 := 0) hP hD hK [0] rfl (by decide) rfl rfl) rfl rfl hl.1 rfl (lv_room (Nat.le_of_ble_eq_true rfl)) d_R_yieldOf_2 ⟨Nat.le_of_ble_eq_true rfl, Nat.le_of_ble_eq_true rfl⟩) hP hD hS hA [0] [1, 2, 3] rfl rfl (by decide) (by decide) (fun r_2 uu H locs hpo hP hD hS => ?_)
  have hpo : r_2 = zI (lotB n x) := hpo
  subst hpo
  have hP : va_P (dC, dI) vwCl [(aK, .inl (cJ, 60, .inr (.inl kg))), (aF, .inl (cJ, 60, .inr (.inl ft))), (aS, .inl (cJ, 60, .inr (.inl so))), (h, .inr (3, [.ref aK, .ref aF, .ref aS, .ref aZ, .int (nI n), .ref aL, .int (nI sc), .ref aH, .int (nI nc), .ref sA, .ref sF, .int (nI nr), .ref aP, .ref aC, .int (nI np), .int (zI mt), .ref mL, .ref mA, .long mb, .int (nI mc), .ref tr]))] H := hP
  have hD : va_D A [(aK, .inl (cJ, 60, .inr (.inl kg))), (aF, .inl (cJ, 60, .inr (.inl ft))), (aS, .inl (cJ, 60, .inr (.inl so))), (h, .inr (3, [.ref aK, .ref aF, .ref aS, .ref aZ, .int (nI n), .ref aL, .int (nI sc), .ref aH, .int (nI nc), .ref sA, .ref sF, .int (nI nr), .ref aP, .ref aC, .int (nI np), .int (zI mt), .ref mL, .ref mA, .long mb, .int (nI mc), .ref tr]))] := hD
  refine k_zeq (tgt := 26) hx hb d_R_yieldOf_5 (by decide) (fun c_5 => ?_) (fun c_5 => ?_)
  · refine lv_ldc2 (v := (-1)) hx hb hown (hts _ wd_233) d_R_yieldOf_26 ?_
    exact k_lret (v := (-1)) hx hb hr hlocks () (by unfold yiA yiR; rw [c_5]; rfl) hP hD hK hS [3, 0, 1, 2] (by decide) rfl d_R_yieldOf_29
  · refine lv_iload_n hx hb d_R_yieldOf_8 rfl (lv_at hl 2 rfl) ?_
    refine lv_if_lt (tgt := 26) hx hb d_R_yieldOf_9 (by decide) (fun c_9 => ?_) (fun c_9 => ?_)
    · refine lv_ldc2 (v := (-1)) hx hb hown (hts _ wd_233) d_R_yieldOf_26 ?_
      exact k_lret (v := (-1)) hx hb hr hlocks () (by unfold yiA yiR; rw [c_5, i02_f (Or.inl c_9)]; rfl) hP hD hK hS [3, 0, 1, 2] (by decide) rfl d_R_yieldOf_29
    · refine lv_iload_n hx hb d_R_yieldOf_12 rfl (lv_at hl 2 rfl) ?_
      refine lv_iconst (v := nI 2) hx hb d_R_yieldOf_13 (by decide) ?_
      refine lv_icmp_gt (tgt := 26) hx hb d_R_yieldOf_14 (by decide) (fun c_14 => ?_) (fun c_14 => ?_)
      · refine lv_ldc2 (v := (-1)) hx hb hown (hts _ wd_233) d_R_yieldOf_26 ?_
        exact k_lret (v := (-1)) hx hb hr hlocks () (by unfold yiA yiR; rw [c_5, i02_f (Or.inr (Int32.not_le.mpr c_14))]; rfl) hP hD hK hS [3, 0, 1, 2] (by decide) rfl d_R_yieldOf_29
      · refine lv_iload_n hx hb d_R_yieldOf_17 rfl (lv_at hl 3 rfl) ?_
        refine lv_if_lt (tgt := 26) hx hb d_R_yieldOf_18 (by decide) (fun c_18 => ?_) (fun c_18 => ?_)
        · refine lv_ldc2 (v := (-1)) hx hb hown (hts _ wd_233) d_R_yieldOf_26 ?_
          exact k_lret (v := (-1)) hx hb hr hlocks () (by unfold yiA yiR; rw [c_5, i02_t c_9 (Int32.not_lt.mp c_14), i02_f (Or.inl c_18)]; rfl) hP hD hK hS [3, 0, 1, 2] (by decide) rfl d_R_yieldOf_29
        · refine lv_iload_n hx hb d_R_yieldOf_21 rfl (lv_at hl 3 rfl) ?_
          refine lv_iconst (v := nI 2) hx hb d_R_yieldOf_22 (by decide) ?_
          refine lv_icmp_le (tgt := 30) hx hb d_R_yieldOf_23 (by decide) (fun c_23 => ?_) (fun c_23 => ?_)
          · have hI1 := i02_t c_9 (Int32.not_lt.mp c_14)
            have hR : yiR n x kind part = true := by unfold yiR; rw [c_5, hI1, i02_t c_18 c_23]; rfl
            obtain ⟨j, hj, rfl⟩ := lotB_nat (by omega) c_5
            have hcl : (nI j).toNatClampNeg = j := nI_clamp (by omega)
            obtain ⟨k, hk, rfl⟩ := in02 hI1
            have hck : (nI k).toNatClampNeg = k := nI_clamp (by omega)
            have hpos := hyv j k hj hk
            refine lv_aload_n hx hb d_R_yieldOf_30 rfl (lv_at hl 0 rfl) ?_
            refine va_get (D := (dC, dI)) (ci := 3) (v := .ref aK) (C := R_R) (T := T_R) (N := 21) hx hb hts iT_R hown hK hP 3 rfl rfl 0 (by decide) (hts _ wd_209) (fun _ h9 => h9) rfl d_R_yieldOf_31 ?_
            refine lv_iload_n hx hb d_R_yieldOf_34 rfl (lv_at hl 1 rfl) ?_
            refine k_lald (j := j) hx hb hK hP 0 0 rfl rfl (by omega) (by decide) d_R_yieldOf_35 ?_
            refine lv_lstore (lv' := [(4, .long (kg j)), (0, .ref h), (1, .int (nI j)), (2, .int (nI k)), (3, .int part)]) hx hb d_R_yieldOf_36 hl (by decide) rfl (fun ls hl => ?_)
            refine lv_aload_n hx hb d_R_yieldOf_38 rfl (lv_at hl 1 rfl) ?_
            refine va_get (D := (dC, dI)) (ci := 3) (v := .ref aF) (C := R_R) (T := T_R) (N := 21) hx hb hts iT_R hown hK hP 3 rfl rfl 1 (by decide) (hts _ wd_210) (fun _ h9 => h9) rfl d_R_yieldOf_39 ?_
            refine lv_iload_n hx hb d_R_yieldOf_42 rfl (lv_at hl 2 rfl) ?_
            refine k_lald (j := j) hx hb hK hP 1 0 rfl rfl (by omega) (by decide) d_R_yieldOf_43 ?_
            refine lv_lstore (lv' := [(6, .long (ft j)), (4, .long (kg j)), (0, .ref h), (1, .int (nI j)), (2, .int (nI k)), (3, .int part)]) hx hb d_R_yieldOf_44 hl (by decide) rfl (fun ls hl => ?_)
            refine lv_aload_n hx hb d_R_yieldOf_46 rfl (lv_at hl 2 rfl) ?_
            refine va_get (D := (dC, dI)) (ci := 3) (v := .ref aS) (C := R_R) (T := T_R) (N := 21) hx hb hts iT_R hown hK hP 3 rfl rfl 2 (by decide) (hts _ wd_211) (fun _ h9 => h9) rfl d_R_yieldOf_47 ?_
            refine lv_iload_n hx hb d_R_yieldOf_50 rfl (lv_at hl 3 rfl) ?_
            refine k_lald (j := j) hx hb hK hP 2 0 rfl rfl (by omega) (by decide) d_R_yieldOf_51 ?_
            have cut_128 : ∀  (H : Heap) (locs : List Loc) (ls : Array Slot), va_P (dC, dI) vwCl [(h, .inr (3, [.ref aK, .ref aF, .ref aS, .ref aZ, .int (nI n), .ref aL, .int (nI sc), .ref aH, .int (nI nc), .ref sA, .ref sF, .int (nI nr), .ref aP, .ref aC, .int (nI np), .int (zI mt), .ref mL, .ref mA, .long mb, .int (nI mc), .ref tr])), (aK, .inl (cJ, 60, .inr (.inl kg))), (aF, .inl (cJ, 60, .inr (.inl ft))), (aS, .inl (cJ, 60, .inr (.inl so)))] H → va_D A [(h, .inr (3, [.ref aK, .ref aF, .ref aS, .ref aZ, .int (nI n), .ref aL, .int (nI sc), .ref aH, .int (nI nc), .ref sA, .ref sF, .int (nI nr), .ref aP, .ref aC, .int (nI np), .int (zI mt), .ref mL, .ref mA, .long mb, .int (nI mc), .ref tr])), (aK, .inl (cJ, 60, .inr (.inl kg))), (aF, .inl (cJ, 60, .inr (.inl ft))), (aS, .inl (cJ, 60, .inr (.inl so)))] → va_S A s.heap H locs → lv_has ls 14 [(0, .ref h), (1, .int (nI j)), (2, .int (nI k)), (3, .int part), (10, .long (yaF (kg j) (ft j) (so j) k))] → W p l e { frames := 1, cells := 0, slots := 0, locals := 30 } s m [.ref h, .int (nI j), .int (nI k), .int part].toArray below meth c H locs 0 0 (MQ below (q_R_yieldOf dC dI cJ cI cZ h aK aF aS aZ aL aH sA sF aP aC mL mA tr n sc nc nr np mt mb mc kg ft so (nI j) (nI k) part A) [.ref h, .int (nI j), .int (nI k), .int part].toArray s 0 0 A) (F0 m 128 ls [.long (ybF k)]) := by
              intro  H locs ls hP hD hS hl
              refine lv_lstore (lv' := [(12, .long (ybF k)), (0, .ref h), (1, .int (nI j)), (2, .int (nI k)), (3, .int part), (10, .long (yaF (kg j) (ft j) (so j) k))]) hx hb d_R_yieldOf_128 hl (by decide) rfl (fun ls hl => ?_)
              refine lv_iload_n hx hb d_R_yieldOf_130 rfl (lv_at hl 4 rfl) ?_
              refine lv_iconst (v := nI 2) hx hb d_R_yieldOf_131 (by decide) ?_
              refine lv_icmp_ge (tgt := 146) hx hb d_R_yieldOf_132 (by decide) (fun c_132 => ?_) (fun c_132 => ?_)
              · refine lv_ldc2 (v := 2000) hx hb hown (hts _ wd_284) d_R_yieldOf_146 ?_
                refine lv_lload hx hb d_R_yieldOf_149 (lv_at hl 5 rfl) ?_
                refine lv_lmul hx hb d_R_yieldOf_151 ?_
                refine lv_lload hx hb d_R_yieldOf_152 (lv_at hl 0 rfl) ?_
                refine lv_ladd hx hb d_R_yieldOf_154 ?_
                refine lv_ldc2 (v := 2) hx hb hown (hts _ wd_285) d_R_yieldOf_155 ?_
                refine lv_lload hx hb d_R_yieldOf_158 (lv_at hl 0 rfl) ?_
                refine lv_lmul hx hb d_R_yieldOf_160 ?_
                refine lv_ldiv hx hb d_R_yieldOf_161 (yb_ne hk) ?_
                exact k_lret (v := ((2000 * (yaF (kg j) (ft j) (so j) k)) + (ybF k)) / (2 * (ybF k))) hx hb hr hlocks () (by unfold yiA; rw [hR, hcl, hck, if_pos rfl, if_pos (p2_eq c_23 c_132)]) hP hD hK hS [0, 1, 2, 3] (by decide) rfl d_R_yieldOf_162
              · refine lv_lload hx hb d_R_yieldOf_135 (lv_at hl 5 rfl) ?_
                refine k_tol (y := lN (yaF (kg j) (ft j) (so j) k).toInt.toNat) (lN_self hpos) ?_
                refine lv_lload hx hb d_R_yieldOf_137 (lv_at hl 0 rfl) ?_
                refine k_tol (y := lN (ybF k).toInt.toNat) (yb_self hk) ?_
                refine lv_iload_n hx hb d_R_yieldOf_139 rfl (lv_at hl 4 rfl) ?_
                refine k_calll (wr := [(h, .inr (3, [.ref aK, .ref aF, .ref aS, .ref aZ, .int (nI n), .ref aL, .int (nI sc), .ref aH, .int (nI nc), .ref sA, .ref sF, .int (nI nr), .ref aP, .ref aC, .int (nI np), .int (zI mt), .ref mL, .ref mA, .long mb, .int (nI mc), .ref tr])), (aK, .inl (cJ, 60, .inr (.inl kg))), (aF, .inl (cJ, 60, .inr (.inl ft))), (aS, .inl (cJ, 60, .inr (.inl so)))]) (va_runS (As := [.long (lN (yaF (kg j) (ft j) (so j) k).toInt.toNat), .long (lN (ybF k).toInt.toNat), .int part]) (rest := []) ⟨hx, hb, hml, hown, hts⟩ (k_R_reduced l dC dI cJ cI cZ _ ((yaF (kg j) (ft j) (so j) k).toInt.toNat) ((ybF k).toInt.toNat) part (toNat_lt _) (yb_lt hk) (yb_pos hk)) (k_cs (y := y_R_reduced) (own := R_R) hts wd_276 wd_224 wd_275 wd_274 hd_R_reduced ⟨Nat.le_of_ble_eq_true rfl, Nat.le_of_ble_eq_true rfl⟩) (k_preS hP hD hK [] rfl (by decide)) rfl rfl hl.1 rfl (lv_room (Nat.le_of_ble_eq_true rfl)) d_R_yieldOf_140 ⟨Nat.le_of_ble_eq_true rfl, Nat.le_of_ble_eq_true rfl⟩) hP hD hS hA [] [0, 1, 2, 3] rfl rfl (by decide) (by decide) (fun r_140 uu H locs hpo hP hD hS => ?_)
                have hpo : r_140 = rpF ((yaF (kg j) (ft j) (so j) k).toInt.toNat) ((ybF k).toInt.toNat) part := hpo
                subst hpo
                have hP : va_P (dC, dI) vwCl [(h, .inr (3, [.ref aK, .ref aF, .ref aS, .ref aZ, .int (nI n), .ref aL, .int (nI sc), .ref aH, .int (nI nc), .ref sA, .ref sF, .int (nI nr), .ref aP, .ref aC, .int (nI np), .int (zI mt), .ref mL, .ref mA, .long mb, .int (nI mc), .ref tr])), (aK, .inl (cJ, 60, .inr (.inl kg))), (aF, .inl (cJ, 60, .inr (.inl ft))), (aS, .inl (cJ, 60, .inr (.inl so)))] H := hP
                have hD : va_D A [(h, .inr (3, [.ref aK, .ref aF, .ref aS, .ref aZ, .int (nI n), .ref aL, .int (nI sc), .ref aH, .int (nI nc), .ref sA, .ref sF, .int (nI nr), .ref aP, .ref aC, .int (nI np), .int (zI mt), .ref mL, .ref mA, .long mb, .int (nI mc), .ref tr])), (aK, .inl (cJ, 60, .inr (.inl kg))), (aF, .inl (cJ, 60, .inr (.inl ft))), (aS, .inl (cJ, 60, .inr (.inl so)))] := hD
                refine lv_goto (tgt := 162) hx hb d_R_yieldOf_143 (by decide) ?_
                exact k_lret (v := rpF ((yaF (kg j) (ft j) (so j) k).toInt.toNat) ((ybF k).toInt.toNat) part) hx hb hr hlocks () (by unfold yiA; rw [hR, hcl, hck, if_pos rfl, if_neg (p2_ne c_132)]) hP hD hK hS [0, 1, 2, 3] (by decide) rfl d_R_yieldOf_162
            have cut_102 : ∀  (H : Heap) (locs : List Loc) (ls : Array Slot), va_P (dC, dI) vwCl [(h, .inr (3, [.ref aK, .ref aF, .ref aS, .ref aZ, .int (nI n), .ref aL, .int (nI sc), .ref aH, .int (nI nc), .ref sA, .ref sF, .int (nI nr), .ref aP, .ref aC, .int (nI np), .int (zI mt), .ref mL, .ref mA, .long mb, .int (nI mc), .ref tr])), (aK, .inl (cJ, 60, .inr (.inl kg))), (aF, .inl (cJ, 60, .inr (.inl ft))), (aS, .inl (cJ, 60, .inr (.inl so)))] H → va_D A [(h, .inr (3, [.ref aK, .ref aF, .ref aS, .ref aZ, .int (nI n), .ref aL, .int (nI sc), .ref aH, .int (nI nc), .ref sA, .ref sF, .int (nI nr), .ref aP, .ref aC, .int (nI np), .int (zI mt), .ref mL, .ref mA, .long mb, .int (nI mc), .ref tr])), (aK, .inl (cJ, 60, .inr (.inl kg))), (aF, .inl (cJ, 60, .inr (.inl ft))), (aS, .inl (cJ, 60, .inr (.inl so)))] → va_S A s.heap H locs → lv_has ls 14 [(0, .ref h), (1, .int (nI j)), (2, .int (nI k)), (3, .int part), (4, .long (kg j)), (6, .long (ft j)), (8, .long (so j))] → W p l e { frames := 1, cells := 0, slots := 0, locals := 30 } s m [.ref h, .int (nI j), .int (nI k), .int part].toArray below meth c H locs 0 0 (MQ below (q_R_yieldOf dC dI cJ cI cZ h aK aF aS aZ aL aH sA sF aP aC mL mA tr n sc nc nr np mt mb mc kg ft so (nI j) (nI k) part A) [.ref h, .int (nI j), .int (nI k), .int part].toArray s 0 0 A) (F0 m 102 ls [.long (yaF (kg j) (ft j) (so j) k)]) := by
              intro  H locs ls hP hD hS hl
              refine lv_lstore (lv' := [(10, .long (yaF (kg j) (ft j) (so j) k)), (0, .ref h), (1, .int (nI j)), (2, .int (nI k)), (3, .int part), (4, .long (kg j)), (6, .long (ft j)), (8, .long (so j))]) hx hb d_R_yieldOf_102 hl (by decide) rfl (fun ls hl => ?_)
              refine lv_iload_n hx hb d_R_yieldOf_104 rfl (lv_at hl 3 rfl) ?_
              refine k_n0ne (tgt := 114) hx hb d_R_yieldOf_105 (by decide) (by omega) (fun c_105 => ?_) (fun c_105 => ?_)
              · refine lv_iload_n hx hb d_R_yieldOf_114 rfl (lv_at hl 3 rfl) ?_
                refine lv_iconst (v := nI 1) hx hb d_R_yieldOf_115 (by decide) ?_
                refine k_nne (tgt := 125) hx hb d_R_yieldOf_116 (by decide) (by omega) (by omega) (fun c_116 => ?_) (fun c_116 => ?_)
                · refine lv_ldc2 (v := 9700) hx hb hown (hts _ wd_283) d_R_yieldOf_125 ?_
                  refine k_tol (y := ybF k) (yb_2 c_105 c_116) ?_
                  exact cut_128  _ _ _ hP hD hS (lv_sub hl [1, 2, 3, 4, 0] rfl)
                · refine lv_ldc2 (v := 8200) hx hb hown (hts _ wd_282) d_R_yieldOf_119 ?_
                  refine k_tol (y := ybF k) (by rw [c_116]; rfl) ?_
                  refine lv_goto (tgt := 128) hx hb d_R_yieldOf_122 (by decide) ?_
                  exact cut_128  _ _ _ hP hD hS (lv_sub hl [1, 2, 3, 4, 0] rfl)
              · refine lv_ldc2 (v := 63000000) hx hb hown (hts _ wd_281) d_R_yieldOf_108 ?_
                refine k_tol (y := ybF k) (by rw [c_105]; rfl) ?_
                refine lv_goto (tgt := 128) hx hb d_R_yieldOf_111 (by decide) ?_
                exact cut_128  _ _ _ hP hD hS (lv_sub hl [1, 2, 3, 4, 0] rfl)
            refine lv_lstore (lv' := [(8, .long (so j)), (6, .long (ft j)), (4, .long (kg j)), (0, .ref h), (1, .int (nI j)), (2, .int (nI k)), (3, .int part)]) hx hb d_R_yieldOf_52 hl (by decide) rfl (fun ls hl => ?_)
            refine lv_iload_n hx hb d_R_yieldOf_54 rfl (lv_at hl 5 rfl) ?_
            refine k_n0ne (tgt := 81) hx hb d_R_yieldOf_55 (by decide) (by omega) (fun c_55 => ?_) (fun c_55 => ?_)
            · refine lv_iload_n hx hb d_R_yieldOf_81 rfl (lv_at hl 5 rfl) ?_
              refine lv_iconst (v := nI 1) hx hb d_R_yieldOf_82 (by decide) ?_
              refine k_nne (tgt := 94) hx hb d_R_yieldOf_83 (by decide) (by omega) (by omega) (fun c_83 => ?_) (fun c_83 => ?_)
              · refine lv_lload hx hb d_R_yieldOf_94 (lv_at hl 2 rfl) ?_
                refine lv_lload hx hb d_R_yieldOf_96 (lv_at hl 1 rfl) ?_
                refine lv_lload hx hb d_R_yieldOf_98 (lv_at hl 0 rfl) ?_
                refine lv_ladd hx hb d_R_yieldOf_100 ?_
                refine lv_lmul hx hb d_R_yieldOf_101 ?_
                refine k_tol (y := yaF (kg j) (ft j) (so j) k) (ya_2 c_55 c_83) ?_
                exact cut_102  _ _ _ (hP.sub [3, 0, 1, 2] rfl) (hD.sub [3, 0, 1, 2] (by decide) rfl) hS (lv_sub hl [3, 4, 5, 6, 2, 1, 0] rfl)
              · refine lv_lload hx hb d_R_yieldOf_86 (lv_at hl 2 rfl) ?_
                refine lv_lload hx hb d_R_yieldOf_88 (lv_at hl 1 rfl) ?_
                refine lv_lmul hx hb d_R_yieldOf_90 ?_
                refine k_tol (y := yaF (kg j) (ft j) (so j) k) (by rw [c_83]; exact ya_1 _ _ _) ?_
                refine lv_goto (tgt := 102) hx hb d_R_yieldOf_91 (by decide) ?_
                exact cut_102  _ _ _ (hP.sub [3, 0, 1, 2] rfl) (hD.sub [3, 0, 1, 2] (by decide) rfl) hS (lv_sub hl [3, 4, 5, 6, 2, 1, 0] rfl)
            · refine lv_lload hx hb d_R_yieldOf_58 (lv_at hl 2 rfl) ?_
              refine lv_ldc2 (v := 93) hx hb hown (hts _ wd_278) d_R_yieldOf_60 ?_
              refine lv_lload hx hb d_R_yieldOf_63 (lv_at hl 1 rfl) ?_
              refine lv_lmul hx hb d_R_yieldOf_65 ?_
              refine lv_ldc2 (v := 75) hx hb hown (hts _ wd_279) d_R_yieldOf_66 ?_
              refine lv_lload hx hb d_R_yieldOf_69 (lv_at hl 0 rfl) ?_
              refine lv_lmul hx hb d_R_yieldOf_71 ?_
              refine lv_ladd hx hb d_R_yieldOf_72 ?_
              refine lv_lmul hx hb d_R_yieldOf_73 ?_
              refine lv_ldc2 (v := 109) hx hb hown (hts _ wd_280) d_R_yieldOf_74 ?_
              refine lv_lmul hx hb d_R_yieldOf_77 ?_
              refine k_tol (y := yaF (kg j) (ft j) (so j) k) (by rw [c_55]; exact ya_0 _ _ _) ?_
              refine lv_goto (tgt := 102) hx hb d_R_yieldOf_78 (by decide) ?_
              exact cut_102  _ _ _ (hP.sub [3, 0, 1, 2] rfl) (hD.sub [3, 0, 1, 2] (by decide) rfl) hS (lv_sub hl [3, 4, 5, 6, 2, 1, 0] rfl)
          · refine lv_ldc2 (v := (-1)) hx hb hown (hts _ wd_233) d_R_yieldOf_26 ?_
            exact k_lret (v := (-1)) hx hb hr hlocks () (by unfold yiA yiR; rw [c_5, i02_t c_9 (Int32.not_lt.mp c_14), i02_f (Or.inr c_23)]; rfl) hP hD hK hS [3, 0, 1, 2] (by decide) rfl d_R_yieldOf_29
/-- R_clearTrial -/
abbrev q_R_clearTrial (dC : Nat → ClassId) (dI : Nat → Nat → Nat) (cJ cI cZ : ClassId) (h : Nat) (aK : Nat) (aF : Nat) (aS : Nat) (aZ : Nat) (aL : Nat) (aH : Nat) (sA : Nat) (sF : Nat) (aP : Nat) (aC : Nat) (mL : Nat) (mA : Nat) (tr : Nat) (n : Nat) (sc : Nat) (nc : Nat) (nr : Nat) (np : Nat) (mc : Nat) (v : ModS) (A : Nat → Prop) : Array Value → State → Outcome → State → Prop := va_Qv (fun (_ : Unit) => True) (kB (dC, dI) vwCl [(cJ, .long), (cI, .int), (cZ, .boolean)] A (fun (_ : Unit) => [(h, .inr (3, [.ref aK, .ref aF, .ref aS, .ref aZ, .int (nI n), .ref aL, .int (nI sc), .ref aH, .int (nI nc), .ref sA, .ref sF, .int (nI nr), .ref aP, .ref aC, .int (nI np), .int (zI ((mzF v).2.2.2)), .ref mL, .ref mA, .long ((mzF v).2.2.1), .int (nI mc), .ref tr])), (tr, .inl (cJ, 4, .inr (.inl ((mzF v).1))))])) A
set_option maxHeartbeats 4000000 in
set_option maxRecDepth 100000 in
theorem k_R_clearTrial (l : Launch) (dC : Nat → ClassId) (dI : Nat → Nat → Nat) (cJ cI cZ : ClassId) (sz : Nat) (h : Nat) (aK : Nat) (aF : Nat) (aS : Nat) (aZ : Nat) (aL : Nat) (aH : Nat) (sA : Nat) (sF : Nat) (aP : Nat) (aC : Nat) (mL : Nat) (mA : Nat) (tr : Nat) (n : Nat) (sc : Nat) (nc : Nat) (nr : Nat) (np : Nat) (mc : Nat) (v : ModS)  : Met l y_R_clearTrial w_R_clearTrial { frames := 0, cells := 0, slots := 0, locals := 0 } (kPc (dC, dI) vwCl [(cJ, .long), (cI, .int), (cZ, .boolean)] [(h, .inr (3, [.ref aK, .ref aF, .ref aS, .ref aZ, .int (nI n), .ref aL, .int (nI sc), .ref aH, .int (nI nc), .ref sA, .ref sF, .int (nI nr), .ref aP, .ref aC, .int (nI np), .int (zI v.2.2.2), .ref mL, .ref mA, .long v.2.2.1, .int (nI mc), .ref tr])), (tr, .inl (cJ, 4, .inr (.inl v.1)))] sz [.ref h]) (q_R_clearTrial dC dI cJ cI cZ h aK aF aS aZ aL aH sA sF aP aC mL mA tr n sc nc nr np mc v (va_A [(h, .inr (3, [.ref aK, .ref aF, .ref aS, .ref aZ, .int (nI n), .ref aL, .int (nI sc), .ref aH, .int (nI nc), .ref sA, .ref sF, .int (nI nr), .ref aP, .ref aC, .int (nI np), .int (zI v.2.2.2), .ref mL, .ref mA, .long v.2.2.1, .int (nI mc), .ref tr])), (tr, .inl (cJ, 4, .inr (.inl v.1)))] sz)) 0 0 (va_A [(h, .inr (3, [.ref aK, .ref aF, .ref aS, .ref aZ, .int (nI n), .ref aL, .int (nI sc), .ref aH, .int (nI nc), .ref sA, .ref sF, .int (nI nr), .ref aP, .ref aC, .int (nI np), .int (zI v.2.2.2), .ref mL, .ref mA, .long v.2.2.1, .int (nI mc), .ref tr])), (tr, .inl (cJ, 4, .inr (.inl v.1)))] sz) := by
  refine k_met (q_R_clearTrial dC dI cJ cI cZ h aK aF aS aZ aL aH sA sF aP aC mL mA tr n sc nc nr np mc v) (by decide +kernel) rfl (Nat.le_of_ble_eq_true rfl) ?_
  intro p e s m below meth c A hx hb hr hml hown hts hlocks hin hA H hP hK hD hS ls hl
  have hl : lv_has ls 2 [(0, .ref h)] := hl
  have hown : s.vm.findClass R_R = some m.cls := hown
  have hts : ∀ wW ∈ kT, wW.before [.ref h].toArray s = true := fun wW hW => hts wW (List.mem_cons_of_mem _ hW)
  refine lv_iconst (v := nI 0) hx hb d_R_clearTrial_0 (by decide) ?_
  refine lv_istore_n (lv' := [(1, .int (nI 0)), (0, .ref h)]) hx hb d_R_clearTrial_1 rfl hl (by decide) rfl (fun ls hl => ?_)
  have hP : va_P (dC, dI) vwCl [(h, .inr (3, [.ref aK, .ref aF, .ref aS, .ref aZ, .int (nI n), .ref aL, .int (nI sc), .ref aH, .int (nI nc), .ref sA, .ref sF, .int (nI nr), .ref aP, .ref aC, .int (nI np), .int (zI v.2.2.2), .ref mL, .ref mA, .long v.2.2.1, .int (nI mc), .ref tr])), (tr, .inl (cJ, 4, .inr (.inl (zer 0 v.1))))] H := by rw [zer_0]; exact hP
  have hD : va_D A [(h, .inr (3, [.ref aK, .ref aF, .ref aS, .ref aZ, .int (nI n), .ref aL, .int (nI sc), .ref aH, .int (nI nc), .ref sA, .ref sF, .int (nI nr), .ref aP, .ref aC, .int (nI np), .int (zI v.2.2.2), .ref mL, .ref mA, .long v.2.2.1, .int (nI mc), .ref tr])), (tr, .inl (cJ, 4, .inr (.inl (zer 0 v.1))))] := by rw [zer_0]; exact hD
  have loop_2 : ∀ (fu_2 : Nat) (i : Nat) (hi : i ≤ 4) (hfu_2 : 5 ≤ i + fu_2) (H : Heap) (locs : List Loc) (ls : Array Slot), va_P (dC, dI) vwCl [(h, .inr (3, [.ref aK, .ref aF, .ref aS, .ref aZ, .int (nI n), .ref aL, .int (nI sc), .ref aH, .int (nI nc), .ref sA, .ref sF, .int (nI nr), .ref aP, .ref aC, .int (nI np), .int (zI v.2.2.2), .ref mL, .ref mA, .long v.2.2.1, .int (nI mc), .ref tr])), (tr, .inl (cJ, 4, .inr (.inl (zer i v.1))))] H → va_D A [(h, .inr (3, [.ref aK, .ref aF, .ref aS, .ref aZ, .int (nI n), .ref aL, .int (nI sc), .ref aH, .int (nI nc), .ref sA, .ref sF, .int (nI nr), .ref aP, .ref aC, .int (nI np), .int (zI v.2.2.2), .ref mL, .ref mA, .long v.2.2.1, .int (nI mc), .ref tr])), (tr, .inl (cJ, 4, .inr (.inl (zer i v.1))))] → va_S A s.heap H locs → lv_has ls 2 [(0, .ref h), (1, .int (nI i))] → W p l e { frames := 0, cells := 0, slots := 0, locals := 0 } s m [.ref h].toArray below meth c H locs 0 0 (MQ below (q_R_clearTrial dC dI cJ cI cZ h aK aF aS aZ aL aH sA sF aP aC mL mA tr n sc nc nr np mc v A) [.ref h].toArray s 0 0 A) (F0 m 2 ls []) := by
    intro fu_2
    induction fu_2 with
    | zero =>
      intro i hi hfu_2 H locs ls hP hD hS hl
      exact absurd hfu_2 (by omega)
    | succ fu_2 ih_2 =>
      intro i hi hfu_2 H locs ls hP hD hS hl
      refine lv_iload_n hx hb d_R_clearTrial_2 rfl (lv_at hl 1 rfl) ?_
      refine lv_iconst (v := nI 4) hx hb d_R_clearTrial_3 (by decide) ?_
      refine k_nge (tgt := 20) hx hb d_R_clearTrial_4 (by decide) (by omega) (by omega) (fun c_4 => ?_) (fun c_4 => ?_)
      · obtain rfl : i = 4 := by omega
        exact k_vret hx hb hr hlocks () trivial hP hD hK hS [0, 1] (by decide) rfl d_R_clearTrial_20
      · refine lv_aload_n hx hb d_R_clearTrial_7 rfl (lv_at hl 0 rfl) ?_
        refine va_get (D := (dC, dI)) (ci := 3) (v := .ref tr) (C := R_R) (T := T_R) (N := 21) hx hb hts iT_R hown hK hP 0 rfl rfl 20 (by decide) (hts _ wd_221) (fun _ h9 => h9) rfl d_R_clearTrial_8 ?_
        refine lv_iload_n hx hb d_R_clearTrial_11 rfl (lv_at hl 1 rfl) ?_
        refine lv_lconst (v := 0) hx hb d_R_clearTrial_12 (by decide) ?_
        refine k_last (j := i) hx hb hK hP hD hS 1 0 rfl rfl (by omega) (by decide) d_R_clearTrial_13 (fun H locs hP hD hS => ?_)
        have ef_13 : vp_updL (zer i v.1) i 0 = zer (i + 1) v.1 := zer_step v.1 i
        rw [ef_13] at hP hD
        have hP : va_P (dC, dI) vwCl [(h, .inr (3, [.ref aK, .ref aF, .ref aS, .ref aZ, .int (nI n), .ref aL, .int (nI sc), .ref aH, .int (nI nc), .ref sA, .ref sF, .int (nI nr), .ref aP, .ref aC, .int (nI np), .int (zI v.2.2.2), .ref mL, .ref mA, .long v.2.2.1, .int (nI mc), .ref tr])), (tr, .inl (cJ, 4, .inr (.inl (zer (i + 1) v.1))))] H := hP
        have hD : va_D A [(h, .inr (3, [.ref aK, .ref aF, .ref aS, .ref aZ, .int (nI n), .ref aL, .int (nI sc), .ref aH, .int (nI nc), .ref sA, .ref sF, .int (nI nr), .ref aP, .ref aC, .int (nI np), .int (zI v.2.2.2), .ref mL, .ref mA, .long v.2.2.1, .int (nI mc), .ref tr])), (tr, .inl (cJ, 4, .inr (.inl (zer (i + 1) v.1))))] := hD
        refine lv_iinc (v := nI (i + 1)) (lv' := [(1, .int (nI (i + 1))), (0, .ref h)]) hx hb d_R_clearTrial_14 hl (k := 1) rfl (nI_add i 1) (by decide) rfl (fun ls hl => ?_)
        refine lv_goto (tgt := 2) hx hb d_R_clearTrial_17 (by decide) ?_
        exact ih_2 (i + 1) (by omega) (by omega) _ _ _ hP hD hS (lv_sub hl [1, 0] rfl)
  exact loop_2 5 0 (by omega) (by omega) _ _ _ hP hD hS (lv_sub hl [1, 0] rfl)
/-- R_cross -/
abbrev q_R_cross (dC : Nat → ClassId) (dI : Nat → Nat → Nat) (cJ cI cZ : ClassId) (x : Int64) (y : Int64) (u : Int64) (w : Int64) (A : Nat → Prop) : Array Value → State → Outcome → State → Prop := va_Ql (fun (r : Int64) (_ : Unit) => r = x * w - y * u) (kB (dC, dI) vwCl [(cJ, .long), (cI, .int), (cZ, .boolean)] A (fun (_ : Unit) => [])) A
set_option maxHeartbeats 4000000 in
set_option maxRecDepth 100000 in
theorem k_R_cross (l : Launch) (dC : Nat → ClassId) (dI : Nat → Nat → Nat) (cJ cI cZ : ClassId) (sz : Nat) (x : Int64) (y : Int64) (u : Int64) (w : Int64)  : Met l y_R_cross w_R_cross { frames := 0, cells := 0, slots := 0, locals := 0 } (kPc (dC, dI) vwCl [(cJ, .long), (cI, .int), (cZ, .boolean)] [] sz [.long x, .long y, .long u, .long w]) (q_R_cross dC dI cJ cI cZ x y u w (va_A [] sz)) 0 0 (va_A [] sz) := by
  refine k_met (q_R_cross dC dI cJ cI cZ x y u w) (by decide +kernel) rfl (Nat.le_of_ble_eq_true rfl) ?_
  intro p e s m below meth c A hx hb hr hml hown hts hlocks hin hA H hP hK hD hS ls hl
  have hl : lv_has ls 8 [(0, .long x), (2, .long y), (4, .long u), (6, .long w)] := hl
  have hown : s.vm.findClass R_R = some m.cls := hown
  have hts : ∀ wW ∈ kT, wW.before [.long x, .long y, .long u, .long w].toArray s = true := fun wW hW => hts wW (List.mem_cons_of_mem _ hW)
  refine lv_lload_n hx hb d_R_cross_0 rfl (lv_at hl 0 rfl) ?_
  refine lv_lload hx hb d_R_cross_1 (lv_at hl 3 rfl) ?_
  refine lv_lmul hx hb d_R_cross_3 ?_
  refine lv_lload_n hx hb d_R_cross_4 rfl (lv_at hl 1 rfl) ?_
  refine lv_lload hx hb d_R_cross_5 (lv_at hl 2 rfl) ?_
  refine lv_lmul hx hb d_R_cross_7 ?_
  refine lv_lsub hx hb d_R_cross_8 ?_
  exact k_lret (v := (x * w) - (y * u)) hx hb hr hlocks () rfl hP hD hK hS [] (by decide) rfl d_R_cross_9
/-- R_take -/
abbrev q_R_take (dC : Nat → ClassId) (dI : Nat → Nat → Nat) (cJ cI cZ : ClassId) (h : Nat) (aK : Nat) (aF : Nat) (aS : Nat) (aZ : Nat) (aL : Nat) (aH : Nat) (sA : Nat) (sF : Nat) (aP : Nat) (aC : Nat) (mL : Nat) (mA : Nat) (tr : Nat) (n : Nat) (sc : Nat) (nc : Nat) (nr : Nat) (np : Nat) (mc : Nat) (v : ModS) (b : Int64) (A : Nat → Prop) : Array Value → State → Outcome → State → Prop := va_Qv (fun (_ : Unit) => True) (kB (dC, dI) vwCl [(cJ, .long), (cI, .int), (cZ, .boolean)] A (fun (_ : Unit) => [(h, .inr (3, [.ref aK, .ref aF, .ref aS, .ref aZ, .int (nI n), .ref aL, .int (nI sc), .ref aH, .int (nI nc), .ref sA, .ref sF, .int (nI nr), .ref aP, .ref aC, .int (nI np), .int (zI ((tkF nc b v).2.2.2)), .ref mL, .ref mA, .long ((tkF nc b v).2.2.1), .int (nI mc), .ref tr])), (tr, .inl (cJ, 4, .inr (.inl ((tkF nc b v).1)))), (mA, .inl (cJ, 4, .inr (.inl ((tkF nc b v).2.1))))])) A
set_option maxHeartbeats 4000000 in
set_option maxRecDepth 100000 in
theorem k_R_take (l : Launch) (dC : Nat → ClassId) (dI : Nat → Nat → Nat) (cJ cI cZ : ClassId) (sz : Nat) (h : Nat) (aK : Nat) (aF : Nat) (aS : Nat) (aZ : Nat) (aL : Nat) (aH : Nat) (sA : Nat) (sF : Nat) (aP : Nat) (aC : Nat) (mL : Nat) (mA : Nat) (tr : Nat) (n : Nat) (sc : Nat) (nc : Nat) (nr : Nat) (np : Nat) (mc : Nat) (v : ModS) (b : Int64) (hnc : nc ≤ 4) : Met l y_R_take w_R_take { frames := 0, cells := 0, slots := 0, locals := 0 } (kPc (dC, dI) vwCl [(cJ, .long), (cI, .int), (cZ, .boolean)] [(h, .inr (3, [.ref aK, .ref aF, .ref aS, .ref aZ, .int (nI n), .ref aL, .int (nI sc), .ref aH, .int (nI nc), .ref sA, .ref sF, .int (nI nr), .ref aP, .ref aC, .int (nI np), .int (zI v.2.2.2), .ref mL, .ref mA, .long v.2.2.1, .int (nI mc), .ref tr])), (tr, .inl (cJ, 4, .inr (.inl v.1))), (mA, .inl (cJ, 4, .inr (.inl v.2.1)))] sz [.ref h, .long b]) (q_R_take dC dI cJ cI cZ h aK aF aS aZ aL aH sA sF aP aC mL mA tr n sc nc nr np mc v b (va_A [(h, .inr (3, [.ref aK, .ref aF, .ref aS, .ref aZ, .int (nI n), .ref aL, .int (nI sc), .ref aH, .int (nI nc), .ref sA, .ref sF, .int (nI nr), .ref aP, .ref aC, .int (nI np), .int (zI v.2.2.2), .ref mL, .ref mA, .long v.2.2.1, .int (nI mc), .ref tr])), (tr, .inl (cJ, 4, .inr (.inl v.1))), (mA, .inl (cJ, 4, .inr (.inl v.2.1)))] sz)) 0 0 (va_A [(h, .inr (3, [.ref aK, .ref aF, .ref aS, .ref aZ, .int (nI n), .ref aL, .int (nI sc), .ref aH, .int (nI nc), .ref sA, .ref sF, .int (nI nr), .ref aP, .ref aC, .int (nI np), .int (zI v.2.2.2), .ref mL, .ref mA, .long v.2.2.1, .int (nI mc), .ref tr])), (tr, .inl (cJ, 4, .inr (.inl v.1))), (mA, .inl (cJ, 4, .inr (.inl v.2.1)))] sz) := by
  refine k_met (q_R_take dC dI cJ cI cZ h aK aF aS aZ aL aH sA sF aP aC mL mA tr n sc nc nr np mc v b) (by decide +kernel) rfl (Nat.le_of_ble_eq_true rfl) ?_
  intro p e s m below meth c A hx hb hr hml hown hts hlocks hin hA H hP hK hD hS ls hl
  have hl : lv_has ls 10 [(0, .ref h), (1, .long b)] := hl
  have hown : s.vm.findClass R_R = some m.cls := hown
  have hts : ∀ wW ∈ kT, wW.before [.ref h, .long b].toArray s = true := fun wW hW => hts wW (List.mem_cons_of_mem _ hW)
  have cut_96 : ∀ (g : Bool) (hg : g = tkB nc b v) (H : Heap) (locs : List Loc) (ls : Array Slot), va_P (dC, dI) vwCl [(h, .inr (3, [.ref aK, .ref aF, .ref aS, .ref aZ, .int (nI n), .ref aL, .int (nI sc), .ref aH, .int (nI nc), .ref sA, .ref sF, .int (nI nr), .ref aP, .ref aC, .int (nI np), .int (zI v.2.2.2), .ref mL, .ref mA, .long v.2.2.1, .int (nI mc), .ref tr])), (tr, .inl (cJ, 4, .inr (.inl v.1))), (mA, .inl (cJ, 4, .inr (.inl v.2.1)))] H → va_D A [(h, .inr (3, [.ref aK, .ref aF, .ref aS, .ref aZ, .int (nI n), .ref aL, .int (nI sc), .ref aH, .int (nI nc), .ref sA, .ref sF, .int (nI nr), .ref aP, .ref aC, .int (nI np), .int (zI v.2.2.2), .ref mL, .ref mA, .long v.2.2.1, .int (nI mc), .ref tr])), (tr, .inl (cJ, 4, .inr (.inl v.1))), (mA, .inl (cJ, 4, .inr (.inl v.2.1)))] → va_S A s.heap H locs → lv_has ls 10 [(0, .ref h), (1, .long b), (3, .int (zI g))] → W p l e { frames := 0, cells := 0, slots := 0, locals := 0 } s m [.ref h, .long b].toArray below meth c H locs 0 0 (MQ below (q_R_take dC dI cJ cI cZ h aK aF aS aZ aL aH sA sF aP aC mL mA tr n sc nc nr np mc v b A) [.ref h, .long b].toArray s 0 0 A) (F0 m 96 ls []) := by
    intro g hg H locs ls hP hD hS hl
    refine lv_iload_n hx hb d_R_take_96 rfl (lv_at hl 2 rfl) ?_
    refine k_zeq (tgt := 142) hx hb d_R_take_97 (by decide) (fun c_97 => ?_) (fun c_97 => ?_)
    · have hq9 : tkF nc b v = v := if_neg (b_nt (hg.symm.trans c_97))
      have hP : va_P (dC, dI) vwCl [(h, .inr (3, [.ref aK, .ref aF, .ref aS, .ref aZ, .int (nI n), .ref aL, .int (nI sc), .ref aH, .int (nI nc), .ref sA, .ref sF, .int (nI nr), .ref aP, .ref aC, .int (nI np), .int (zI ((tkF nc b v).2.2.2)), .ref mL, .ref mA, .long ((tkF nc b v).2.2.1), .int (nI mc), .ref tr])), (tr, .inl (cJ, 4, .inr (.inl ((tkF nc b v).1)))), (mA, .inl (cJ, 4, .inr (.inl ((tkF nc b v).2.1))))] H := by rw [hq9]; exact hP
      have hD : va_D A [(h, .inr (3, [.ref aK, .ref aF, .ref aS, .ref aZ, .int (nI n), .ref aL, .int (nI sc), .ref aH, .int (nI nc), .ref sA, .ref sF, .int (nI nr), .ref aP, .ref aC, .int (nI np), .int (zI ((tkF nc b v).2.2.2)), .ref mL, .ref mA, .long ((tkF nc b v).2.2.1), .int (nI mc), .ref tr])), (tr, .inl (cJ, 4, .inr (.inl ((tkF nc b v).1)))), (mA, .inl (cJ, 4, .inr (.inl ((tkF nc b v).2.1))))] := by rw [hq9]; exact hD
      exact k_vret hx hb hr hlocks () trivial hP hD hK hS [0, 1, 2] (by decide) rfl d_R_take_142
    · refine lv_aload_n hx hb d_R_take_100 rfl (lv_at hl 0 rfl) ?_
      refine lv_iconst (v := nI 1) hx hb d_R_take_101 (by decide) ?_
      refine k_toi (y := zI true) (by decide) ?_
      refine va_put (D := (dC, dI)) (ci := 3) (v := .int (zI true)) (ty := .boolean) (C := R_R) (T := T_R) (N := 21) hx hb hts iT_R t_R t_R_ok n_R hown hK hP hD hS 0 rfl rfl 15 (by decide) (hts _ wd_251) (fun _ h9 => h9) rfl (by decide +kernel) rfl rfl (Nat.le_of_ble_eq_true rfl) d_R_take_102 (fun H locs hP hD hS => ?_)
      have hP : va_P (dC, dI) vwCl [(h, .inr (3, [.ref aK, .ref aF, .ref aS, .ref aZ, .int (nI n), .ref aL, .int (nI sc), .ref aH, .int (nI nc), .ref sA, .ref sF, .int (nI nr), .ref aP, .ref aC, .int (nI np), .int (zI true), .ref mL, .ref mA, .long v.2.2.1, .int (nI mc), .ref tr])), (tr, .inl (cJ, 4, .inr (.inl v.1))), (mA, .inl (cJ, 4, .inr (.inl v.2.1)))] H := hP
      have hD : va_D A [(h, .inr (3, [.ref aK, .ref aF, .ref aS, .ref aZ, .int (nI n), .ref aL, .int (nI sc), .ref aH, .int (nI nc), .ref sA, .ref sF, .int (nI nr), .ref aP, .ref aC, .int (nI np), .int (zI true), .ref mL, .ref mA, .long v.2.2.1, .int (nI mc), .ref tr])), (tr, .inl (cJ, 4, .inr (.inl v.1))), (mA, .inl (cJ, 4, .inr (.inl v.2.1)))] := hD
      refine lv_aload_n hx hb d_R_take_105 rfl (lv_at hl 0 rfl) ?_
      refine lv_lload_n hx hb d_R_take_106 rfl (lv_at hl 1 rfl) ?_
      refine va_put (D := (dC, dI)) (ci := 3) (v := .long b) (ty := .long) (C := R_R) (T := T_R) (N := 21) hx hb hts iT_R t_R t_R_ok n_R hown hK hP hD hS 0 rfl rfl 18 (by decide) (hts _ wd_267) (fun _ h9 => h9) rfl (by decide +kernel) rfl rfl (Nat.le_of_ble_eq_true rfl) d_R_take_107 (fun H locs hP hD hS => ?_)
      have hP : va_P (dC, dI) vwCl [(h, .inr (3, [.ref aK, .ref aF, .ref aS, .ref aZ, .int (nI n), .ref aL, .int (nI sc), .ref aH, .int (nI nc), .ref sA, .ref sF, .int (nI nr), .ref aP, .ref aC, .int (nI np), .int (zI true), .ref mL, .ref mA, .long b, .int (nI mc), .ref tr])), (tr, .inl (cJ, 4, .inr (.inl v.1))), (mA, .inl (cJ, 4, .inr (.inl v.2.1)))] H := hP
      have hD : va_D A [(h, .inr (3, [.ref aK, .ref aF, .ref aS, .ref aZ, .int (nI n), .ref aL, .int (nI sc), .ref aH, .int (nI nc), .ref sA, .ref sF, .int (nI nr), .ref aP, .ref aC, .int (nI np), .int (zI true), .ref mL, .ref mA, .long b, .int (nI mc), .ref tr])), (tr, .inl (cJ, 4, .inr (.inl v.1))), (mA, .inl (cJ, 4, .inr (.inl v.2.1)))] := hD
      refine lv_iconst (v := nI 0) hx hb d_R_take_110 (by decide) ?_
      refine lv_istore (lv' := [(5, .int (nI 0)), (0, .ref h), (1, .long b), (3, .int (zI g))]) hx hb d_R_take_111 hl (by decide) rfl (fun ls hl => ?_)
      have hP : va_P (dC, dI) vwCl [(h, .inr (3, [.ref aK, .ref aF, .ref aS, .ref aZ, .int (nI n), .ref aL, .int (nI sc), .ref aH, .int (nI nc), .ref sA, .ref sF, .int (nI nr), .ref aP, .ref aC, .int (nI np), .int (zI true), .ref mL, .ref mA, .long b, .int (nI mc), .ref tr])), (tr, .inl (cJ, 4, .inr (.inl v.1))), (mA, .inl (cJ, 4, .inr (.inl (cpy 0 v.1 v.2.1))))] H := by rw [cpy_0]; exact hP
      have hD : va_D A [(h, .inr (3, [.ref aK, .ref aF, .ref aS, .ref aZ, .int (nI n), .ref aL, .int (nI sc), .ref aH, .int (nI nc), .ref sA, .ref sF, .int (nI nr), .ref aP, .ref aC, .int (nI np), .int (zI true), .ref mL, .ref mA, .long b, .int (nI mc), .ref tr])), (tr, .inl (cJ, 4, .inr (.inl v.1))), (mA, .inl (cJ, 4, .inr (.inl (cpy 0 v.1 v.2.1))))] := by rw [cpy_0]; exact hD
      have loop_113 : ∀ (fu_113 : Nat) (i : Nat) (hi : i ≤ nc) (hfu_113 : nc + 1 ≤ i + fu_113) (H : Heap) (locs : List Loc) (ls : Array Slot), va_P (dC, dI) vwCl [(h, .inr (3, [.ref aK, .ref aF, .ref aS, .ref aZ, .int (nI n), .ref aL, .int (nI sc), .ref aH, .int (nI nc), .ref sA, .ref sF, .int (nI nr), .ref aP, .ref aC, .int (nI np), .int (zI true), .ref mL, .ref mA, .long b, .int (nI mc), .ref tr])), (tr, .inl (cJ, 4, .inr (.inl v.1))), (mA, .inl (cJ, 4, .inr (.inl (cpy i v.1 v.2.1))))] H → va_D A [(h, .inr (3, [.ref aK, .ref aF, .ref aS, .ref aZ, .int (nI n), .ref aL, .int (nI sc), .ref aH, .int (nI nc), .ref sA, .ref sF, .int (nI nr), .ref aP, .ref aC, .int (nI np), .int (zI true), .ref mL, .ref mA, .long b, .int (nI mc), .ref tr])), (tr, .inl (cJ, 4, .inr (.inl v.1))), (mA, .inl (cJ, 4, .inr (.inl (cpy i v.1 v.2.1))))] → va_S A s.heap H locs → lv_has ls 10 [(0, .ref h), (1, .long b), (5, .int (nI i))] → W p l e { frames := 0, cells := 0, slots := 0, locals := 0 } s m [.ref h, .long b].toArray below meth c H locs 0 0 (MQ below (q_R_take dC dI cJ cI cZ h aK aF aS aZ aL aH sA sF aP aC mL mA tr n sc nc nr np mc v b A) [.ref h, .long b].toArray s 0 0 A) (F0 m 113 ls []) := by
        intro fu_113
        induction fu_113 with
        | zero =>
          intro i hi hfu_113 H locs ls hP hD hS hl
          exact absurd hfu_113 (by omega)
        | succ fu_113 ih_113 =>
          intro i hi hfu_113 H locs ls hP hD hS hl
          refine lv_iload hx hb d_R_take_113 (lv_at hl 2 rfl) ?_
          refine lv_aload_n hx hb d_R_take_115 rfl (lv_at hl 0 rfl) ?_
          refine va_get (D := (dC, dI)) (ci := 3) (v := .int (nI nc)) (C := R_R) (T := T_R) (N := 21) hx hb hts iT_R hown hK hP 0 rfl rfl 8 (by decide) (hts _ wd_245) (fun _ h9 => h9) rfl d_R_take_116 ?_
          refine k_nge (tgt := 142) hx hb d_R_take_119 (by decide) (by omega) (by omega) (fun c_119 => ?_) (fun c_119 => ?_)
          · have ei9 : i = nc := by omega
            subst i
            have hq9 : tkF nc b v = (v.1, cpy nc v.1 v.2.1, b, true) := if_pos (hg.symm.trans c_97)
            have hP : va_P (dC, dI) vwCl [(h, .inr (3, [.ref aK, .ref aF, .ref aS, .ref aZ, .int (nI n), .ref aL, .int (nI sc), .ref aH, .int (nI nc), .ref sA, .ref sF, .int (nI nr), .ref aP, .ref aC, .int (nI np), .int (zI ((tkF nc b v).2.2.2)), .ref mL, .ref mA, .long ((tkF nc b v).2.2.1), .int (nI mc), .ref tr])), (tr, .inl (cJ, 4, .inr (.inl ((tkF nc b v).1)))), (mA, .inl (cJ, 4, .inr (.inl ((tkF nc b v).2.1))))] H := by rw [hq9]; exact hP
            have hD : va_D A [(h, .inr (3, [.ref aK, .ref aF, .ref aS, .ref aZ, .int (nI n), .ref aL, .int (nI sc), .ref aH, .int (nI nc), .ref sA, .ref sF, .int (nI nr), .ref aP, .ref aC, .int (nI np), .int (zI ((tkF nc b v).2.2.2)), .ref mL, .ref mA, .long ((tkF nc b v).2.2.1), .int (nI mc), .ref tr])), (tr, .inl (cJ, 4, .inr (.inl ((tkF nc b v).1)))), (mA, .inl (cJ, 4, .inr (.inl ((tkF nc b v).2.1))))] := by rw [hq9]; exact hD
            exact k_vret hx hb hr hlocks () trivial hP hD hK hS [0, 1, 2] (by decide) rfl d_R_take_142
          · refine lv_aload_n hx hb d_R_take_122 rfl (lv_at hl 0 rfl) ?_
            refine va_get (D := (dC, dI)) (ci := 3) (v := .ref mA) (C := R_R) (T := T_R) (N := 21) hx hb hts iT_R hown hK hP 0 rfl rfl 17 (by decide) (hts _ wd_220) (fun _ h9 => h9) rfl d_R_take_123 ?_
            refine lv_iload hx hb d_R_take_126 (lv_at hl 2 rfl) ?_
            refine lv_aload_n hx hb d_R_take_128 rfl (lv_at hl 0 rfl) ?_
            refine va_get (D := (dC, dI)) (ci := 3) (v := .ref tr) (C := R_R) (T := T_R) (N := 21) hx hb hts iT_R hown hK hP 0 rfl rfl 20 (by decide) (hts _ wd_221) (fun _ h9 => h9) rfl d_R_take_129 ?_
            refine lv_iload hx hb d_R_take_132 (lv_at hl 2 rfl) ?_
            refine k_lald (j := i) hx hb hK hP 1 0 rfl rfl (by omega) (by decide) d_R_take_134 ?_
            refine k_last (j := i) hx hb hK hP hD hS 2 0 rfl rfl (by omega) (by decide) d_R_take_135 (fun H locs hP hD hS => ?_)
            have ef_135 : vp_updL (cpy i v.1 v.2.1) i (v.1 i) = cpy (i + 1) v.1 v.2.1 := cpy_step v.1 v.2.1 i
            rw [ef_135] at hP hD
            have hP : va_P (dC, dI) vwCl [(h, .inr (3, [.ref aK, .ref aF, .ref aS, .ref aZ, .int (nI n), .ref aL, .int (nI sc), .ref aH, .int (nI nc), .ref sA, .ref sF, .int (nI nr), .ref aP, .ref aC, .int (nI np), .int (zI true), .ref mL, .ref mA, .long b, .int (nI mc), .ref tr])), (tr, .inl (cJ, 4, .inr (.inl v.1))), (mA, .inl (cJ, 4, .inr (.inl (cpy (i + 1) v.1 v.2.1))))] H := hP
            have hD : va_D A [(h, .inr (3, [.ref aK, .ref aF, .ref aS, .ref aZ, .int (nI n), .ref aL, .int (nI sc), .ref aH, .int (nI nc), .ref sA, .ref sF, .int (nI nr), .ref aP, .ref aC, .int (nI np), .int (zI true), .ref mL, .ref mA, .long b, .int (nI mc), .ref tr])), (tr, .inl (cJ, 4, .inr (.inl v.1))), (mA, .inl (cJ, 4, .inr (.inl (cpy (i + 1) v.1 v.2.1))))] := hD
            refine lv_iinc (v := nI (i + 1)) (lv' := [(5, .int (nI (i + 1))), (0, .ref h), (1, .long b)]) hx hb d_R_take_136 hl (k := 2) rfl (nI_add i 1) (by decide) rfl (fun ls hl => ?_)
            refine lv_goto (tgt := 113) hx hb d_R_take_139 (by decide) ?_
            exact ih_113 (i + 1) (by omega) (by omega) _ _ _ hP hD hS (lv_sub hl [1, 2, 0] rfl)
      exact loop_113 (nc + 1) 0 (by omega) (by omega) _ _ _ hP hD hS (lv_sub hl [1, 2, 0] rfl)
  have loop_22 : ∀ (fu_22 : Nat) (i : Nat) (g : Bool) (q : Bool) (hi : i ≤ nc) (hI : tkI nc b v i g q) (hfu_22 : nc + 1 ≤ i + fu_22) (H : Heap) (locs : List Loc) (ls : Array Slot), va_P (dC, dI) vwCl [(h, .inr (3, [.ref aK, .ref aF, .ref aS, .ref aZ, .int (nI n), .ref aL, .int (nI sc), .ref aH, .int (nI nc), .ref sA, .ref sF, .int (nI nr), .ref aP, .ref aC, .int (nI np), .int (zI v.2.2.2), .ref mL, .ref mA, .long v.2.2.1, .int (nI mc), .ref tr])), (tr, .inl (cJ, 4, .inr (.inl v.1))), (mA, .inl (cJ, 4, .inr (.inl v.2.1)))] H → va_D A [(h, .inr (3, [.ref aK, .ref aF, .ref aS, .ref aZ, .int (nI n), .ref aL, .int (nI sc), .ref aH, .int (nI nc), .ref sA, .ref sF, .int (nI nr), .ref aP, .ref aC, .int (nI np), .int (zI v.2.2.2), .ref mL, .ref mA, .long v.2.2.1, .int (nI mc), .ref tr])), (tr, .inl (cJ, 4, .inr (.inl v.1))), (mA, .inl (cJ, 4, .inr (.inl v.2.1)))] → va_S A s.heap H locs → lv_has ls 10 [(0, .ref h), (1, .long b), (3, .int (zI g)), (4, .int (zI q)), (5, .int (nI i))] → W p l e { frames := 0, cells := 0, slots := 0, locals := 0 } s m [.ref h, .long b].toArray below meth c H locs 0 0 (MQ below (q_R_take dC dI cJ cI cZ h aK aF aS aZ aL aH sA sF aP aC mL mA tr n sc nc nr np mc v b A) [.ref h, .long b].toArray s 0 0 A) (F0 m 22 ls []) := by
    intro fu_22
    induction fu_22 with
    | zero =>
      intro i g q hi hI hfu_22 H locs ls hP hD hS hl
      exact absurd hfu_22 (by omega)
    | succ fu_22 ih_22 =>
      intro i g q hi hI hfu_22 H locs ls hP hD hS hl
      refine lv_iload hx hb d_R_take_22 (lv_at hl 4 rfl) ?_
      refine lv_aload_n hx hb d_R_take_24 rfl (lv_at hl 0 rfl) ?_
      refine va_get (D := (dC, dI)) (ci := 3) (v := .int (nI nc)) (C := R_R) (T := T_R) (N := 21) hx hb hts iT_R hown hK hP 0 rfl rfl 8 (by decide) (hts _ wd_245) (fun _ h9 => h9) rfl d_R_take_25 ?_
      refine k_nge (tgt := 96) hx hb d_R_take_28 (by decide) (by omega) (by omega) (fun c_28 => ?_) (fun c_28 => ?_)
      · exact cut_96 g (tkI_end hI c_28) _ _ _ hP hD hS (lv_sub hl [0, 1, 2] rfl)
      · refine lv_iload hx hb d_R_take_31 (lv_at hl 3 rfl) ?_
        refine k_zeq (tgt := 96) hx hb d_R_take_33 (by decide) (fun c_33 => ?_) (fun c_33 => ?_)
        · exact cut_96 g (hI.2 c_33) _ _ _ hP hD hS (lv_sub hl [0, 1, 2] rfl)
        · refine lv_aload_n hx hb d_R_take_36 rfl (lv_at hl 0 rfl) ?_
          refine va_get (D := (dC, dI)) (ci := 3) (v := .ref tr) (C := R_R) (T := T_R) (N := 21) hx hb hts iT_R hown hK hP 0 rfl rfl 20 (by decide) (hts _ wd_221) (fun _ h9 => h9) rfl d_R_take_37 ?_
          refine lv_iload hx hb d_R_take_40 (lv_at hl 4 rfl) ?_
          refine k_lald (j := i) hx hb hK hP 1 0 rfl rfl (by omega) (by decide) d_R_take_42 ?_
          refine lv_aload_n hx hb d_R_take_43 rfl (lv_at hl 0 rfl) ?_
          refine va_get (D := (dC, dI)) (ci := 3) (v := .long v.2.2.1) (C := R_R) (T := T_R) (N := 21) hx hb hts iT_R hown hK hP 0 rfl rfl 18 (by decide) (hts _ wd_267) (fun _ h9 => h9) rfl d_R_take_44 ?_
          refine lv_lmul hx hb d_R_take_47 ?_
          refine lv_lstore (lv' := [(6, .long ((v.1 i) * v.2.2.1)), (0, .ref h), (1, .long b), (3, .int (zI g)), (4, .int (zI q)), (5, .int (nI i))]) hx hb d_R_take_48 hl (by decide) rfl (fun ls hl => ?_)
          refine lv_aload_n hx hb d_R_take_50 rfl (lv_at hl 1 rfl) ?_
          refine va_get (D := (dC, dI)) (ci := 3) (v := .ref mA) (C := R_R) (T := T_R) (N := 21) hx hb hts iT_R hown hK hP 0 rfl rfl 17 (by decide) (hts _ wd_220) (fun _ h9 => h9) rfl d_R_take_51 ?_
          refine lv_iload hx hb d_R_take_54 (lv_at hl 5 rfl) ?_
          refine k_lald (j := i) hx hb hK hP 2 0 rfl rfl (by omega) (by decide) d_R_take_56 ?_
          refine lv_lload_n hx hb d_R_take_57 rfl (lv_at hl 2 rfl) ?_
          refine lv_lmul hx hb d_R_take_58 ?_
          refine lv_lstore (lv' := [(8, .long ((v.2.1 i) * b)), (6, .long ((v.1 i) * v.2.2.1)), (0, .ref h), (1, .long b), (3, .int (zI g)), (4, .int (zI q)), (5, .int (nI i))]) hx hb d_R_take_59 hl (by decide) rfl (fun ls hl => ?_)
          refine lv_lload hx hb d_R_take_61 (lv_at hl 1 rfl) ?_
          refine lv_lload hx hb d_R_take_63 (lv_at hl 0 rfl) ?_
          refine k_jne (tgt := 73) hx hb d_R_take_65 d_R_take_66 (by decide) (fun c_65 => ?_) (fun c_65 => ?_)
          · refine lv_iconst (v := nI 0) hx hb d_R_take_73 (by decide) ?_
            refine k_toi (y := zI false) (by decide) ?_
            refine lv_istore (lv' := [(4, .int (zI false)), (8, .long ((v.2.1 i) * b)), (6, .long ((v.1 i) * v.2.2.1)), (0, .ref h), (1, .long b), (3, .int (zI g)), (5, .int (nI i))]) hx hb d_R_take_74 hl (by decide) rfl (fun ls hl => ?_)
            refine lv_lload hx hb d_R_take_76 (lv_at hl 2 rfl) ?_
            refine lv_lload hx hb d_R_take_78 (lv_at hl 1 rfl) ?_
            refine k_jle (tgt := 88) hx hb d_R_take_80 d_R_take_81 (by decide) (fun c_80 => ?_) (fun c_80 => ?_)
            · refine lv_iconst (v := nI 0) hx hb d_R_take_88 (by decide) ?_
              refine k_toi (y := zI false) (by decide) ?_
              refine lv_istore_n (lv' := [(3, .int (zI false)), (4, .int (zI false)), (8, .long ((v.2.1 i) * b)), (6, .long ((v.1 i) * v.2.2.1)), (0, .ref h), (1, .long b), (5, .int (nI i))]) hx hb d_R_take_89 rfl hl (by decide) rfl (fun ls hl => ?_)
              refine lv_iinc (v := nI (i + 1)) (lv' := [(5, .int (nI (i + 1))), (3, .int (zI false)), (4, .int (zI false)), (8, .long ((v.2.1 i) * b)), (6, .long ((v.1 i) * v.2.2.1)), (0, .ref h), (1, .long b)]) hx hb d_R_take_90 hl (k := 6) rfl (nI_add i 1) (by decide) rfl (fun ls hl => ?_)
              refine lv_goto (tgt := 22) hx hb d_R_take_93 (by decide) ?_
              exact ih_22 (i + 1) false false (by omega) (tkI_diff hI c_33 c_28 c_65 (decide_eq_false (Int64.not_lt.mpr c_80)).symm) (by omega) _ _ _ hP hD hS (lv_sub hl [5, 6, 1, 2, 0] rfl)
            · refine lv_iconst (v := nI 1) hx hb d_R_take_84 (by decide) ?_
              refine k_toi (y := zI true) (by decide) ?_
              refine lv_goto (tgt := 89) hx hb d_R_take_85 (by decide) ?_
              refine lv_istore_n (lv' := [(3, .int (zI true)), (4, .int (zI false)), (8, .long ((v.2.1 i) * b)), (6, .long ((v.1 i) * v.2.2.1)), (0, .ref h), (1, .long b), (5, .int (nI i))]) hx hb d_R_take_89 rfl hl (by decide) rfl (fun ls hl => ?_)
              refine lv_iinc (v := nI (i + 1)) (lv' := [(5, .int (nI (i + 1))), (3, .int (zI true)), (4, .int (zI false)), (8, .long ((v.2.1 i) * b)), (6, .long ((v.1 i) * v.2.2.1)), (0, .ref h), (1, .long b)]) hx hb d_R_take_90 hl (k := 6) rfl (nI_add i 1) (by decide) rfl (fun ls hl => ?_)
              refine lv_goto (tgt := 22) hx hb d_R_take_93 (by decide) ?_
              exact ih_22 (i + 1) true false (by omega) (tkI_diff hI c_33 c_28 c_65 (decide_eq_true c_80).symm) (by omega) _ _ _ hP hD hS (lv_sub hl [5, 6, 1, 2, 0] rfl)
          · refine lv_iconst (v := nI 1) hx hb d_R_take_69 (by decide) ?_
            refine k_toi (y := zI true) (by decide) ?_
            refine lv_goto (tgt := 74) hx hb d_R_take_70 (by decide) ?_
            refine lv_istore (lv' := [(4, .int (zI true)), (8, .long ((v.2.1 i) * b)), (6, .long ((v.1 i) * v.2.2.1)), (0, .ref h), (1, .long b), (3, .int (zI g)), (5, .int (nI i))]) hx hb d_R_take_74 hl (by decide) rfl (fun ls hl => ?_)
            refine lv_lload hx hb d_R_take_76 (lv_at hl 2 rfl) ?_
            refine lv_lload hx hb d_R_take_78 (lv_at hl 1 rfl) ?_
            refine k_jle (tgt := 88) hx hb d_R_take_80 d_R_take_81 (by decide) (fun c_80 => ?_) (fun c_80 => ?_)
            · refine lv_iconst (v := nI 0) hx hb d_R_take_88 (by decide) ?_
              refine k_toi (y := zI false) (by decide) ?_
              refine lv_istore_n (lv' := [(3, .int (zI false)), (4, .int (zI true)), (8, .long ((v.2.1 i) * b)), (6, .long ((v.1 i) * v.2.2.1)), (0, .ref h), (1, .long b), (5, .int (nI i))]) hx hb d_R_take_89 rfl hl (by decide) rfl (fun ls hl => ?_)
              refine lv_iinc (v := nI (i + 1)) (lv' := [(5, .int (nI (i + 1))), (3, .int (zI false)), (4, .int (zI true)), (8, .long ((v.2.1 i) * b)), (6, .long ((v.1 i) * v.2.2.1)), (0, .ref h), (1, .long b)]) hx hb d_R_take_90 hl (k := 6) rfl (nI_add i 1) (by decide) rfl (fun ls hl => ?_)
              refine lv_goto (tgt := 22) hx hb d_R_take_93 (by decide) ?_
              exact ih_22 (i + 1) false true (by omega) (tkI_same hI c_33 c_65) (by omega) _ _ _ hP hD hS (lv_sub hl [5, 6, 1, 2, 0] rfl)
            · refine lv_iconst (v := nI 1) hx hb d_R_take_84 (by decide) ?_
              refine k_toi (y := zI true) (by decide) ?_
              refine lv_goto (tgt := 89) hx hb d_R_take_85 (by decide) ?_
              refine lv_istore_n (lv' := [(3, .int (zI true)), (4, .int (zI true)), (8, .long ((v.2.1 i) * b)), (6, .long ((v.1 i) * v.2.2.1)), (0, .ref h), (1, .long b), (5, .int (nI i))]) hx hb d_R_take_89 rfl hl (by decide) rfl (fun ls hl => ?_)
              refine lv_iinc (v := nI (i + 1)) (lv' := [(5, .int (nI (i + 1))), (3, .int (zI true)), (4, .int (zI true)), (8, .long ((v.2.1 i) * b)), (6, .long ((v.1 i) * v.2.2.1)), (0, .ref h), (1, .long b)]) hx hb d_R_take_90 hl (k := 6) rfl (nI_add i 1) (by decide) rfl (fun ls hl => ?_)
              refine lv_goto (tgt := 22) hx hb d_R_take_93 (by decide) ?_
              exact ih_22 (i + 1) true true (by omega) (False.elim (l_irr c_80 (by rw [c_65]; exact Int64.le_refl _))) (by omega) _ _ _ hP hD hS (lv_sub hl [5, 6, 1, 2, 0] rfl)
  refine lv_aload_n hx hb d_R_take_0 rfl (lv_at hl 0 rfl) ?_
  refine va_get (D := (dC, dI)) (ci := 3) (v := .int (zI v.2.2.2)) (C := R_R) (T := T_R) (N := 21) hx hb hts iT_R hown hK hP 0 rfl rfl 15 (by decide) (hts _ wd_251) (fun _ h9 => h9) rfl d_R_take_1 ?_
  refine k_zne (tgt := 11) hx hb d_R_take_4 (by decide) (fun c_4 => ?_) (fun c_4 => ?_)
  · refine lv_iconst (v := nI 0) hx hb d_R_take_11 (by decide) ?_
    refine k_toi (y := zI false) (by decide) ?_
    refine lv_istore_n (lv' := [(3, .int (zI false)), (0, .ref h), (1, .long b)]) hx hb d_R_take_12 rfl hl (by decide) rfl (fun ls hl => ?_)
    refine lv_aload_n hx hb d_R_take_13 rfl (lv_at hl 1 rfl) ?_
    refine va_get (D := (dC, dI)) (ci := 3) (v := .int (zI v.2.2.2)) (C := R_R) (T := T_R) (N := 21) hx hb hts iT_R hown hK hP 0 rfl rfl 15 (by decide) (hts _ wd_251) (fun _ h9 => h9) rfl d_R_take_14 ?_
    refine lv_istore (lv' := [(4, .int (zI v.2.2.2)), (3, .int (zI false)), (0, .ref h), (1, .long b)]) hx hb d_R_take_17 hl (by decide) rfl (fun ls hl => ?_)
    refine lv_iconst (v := nI 0) hx hb d_R_take_19 (by decide) ?_
    refine lv_istore (lv' := [(5, .int (nI 0)), (4, .int (zI v.2.2.2)), (3, .int (zI false)), (0, .ref h), (1, .long b)]) hx hb d_R_take_20 hl (by decide) rfl (fun ls hl => ?_)
    exact loop_22 (nc + 1) 0 false v.2.2.2 (by omega) (by have := tkI_0 (nc := nc) (b := b) (v := v); rw [c_4] at this ⊢; exact this) (by omega) _ _ _ hP hD hS (lv_sub hl [3, 4, 2, 1, 0] rfl)
  · refine lv_iconst (v := nI 1) hx hb d_R_take_7 (by decide) ?_
    refine k_toi (y := zI true) (by decide) ?_
    refine lv_goto (tgt := 12) hx hb d_R_take_8 (by decide) ?_
    refine lv_istore_n (lv' := [(3, .int (zI true)), (0, .ref h), (1, .long b)]) hx hb d_R_take_12 rfl hl (by decide) rfl (fun ls hl => ?_)
    refine lv_aload_n hx hb d_R_take_13 rfl (lv_at hl 1 rfl) ?_
    refine va_get (D := (dC, dI)) (ci := 3) (v := .int (zI v.2.2.2)) (C := R_R) (T := T_R) (N := 21) hx hb hts iT_R hown hK hP 0 rfl rfl 15 (by decide) (hts _ wd_251) (fun _ h9 => h9) rfl d_R_take_14 ?_
    refine lv_istore (lv' := [(4, .int (zI v.2.2.2)), (3, .int (zI true)), (0, .ref h), (1, .long b)]) hx hb d_R_take_17 hl (by decide) rfl (fun ls hl => ?_)
    refine lv_iconst (v := nI 0) hx hb d_R_take_19 (by decide) ?_
    refine lv_istore (lv' := [(5, .int (nI 0)), (4, .int (zI v.2.2.2)), (3, .int (zI true)), (0, .ref h), (1, .long b)]) hx hb d_R_take_20 hl (by decide) rfl (fun ls hl => ?_)
    exact loop_22 (nc + 1) 0 true v.2.2.2 (by omega) (by have := tkI_0 (nc := nc) (b := b) (v := v); rw [c_4] at this ⊢; exact this) (by omega) _ _ _ hP hD hS (lv_sub hl [3, 4, 2, 1, 0] rfl)
/-- R_share -/
abbrev q_R_share (dC : Nat → ClassId) (dI : Nat → Nat → Nat) (cJ cI cZ : ClassId) (h : Nat) (aK : Nat) (aF : Nat) (aS : Nat) (aZ : Nat) (aL : Nat) (aH : Nat) (sA : Nat) (sF : Nat) (aP : Nat) (aC : Nat) (mL : Nat) (mA : Nat) (tr : Nat) (n : Nat) (sc : Nat) (nc : Nat) (nr : Nat) (np : Nat) (mc : Nat) (ml : Nat → Int32) (v : ModS) (x : Int32) (part : Int32) (A : Nat → Prop) : Array Value → State → Outcome → State → Prop := va_Ql (fun (r : Int64) (_ : Unit) => r = rsA n ml mc v x part) (kB (dC, dI) vwCl [(cJ, .long), (cI, .int), (cZ, .boolean)] A (fun (_ : Unit) => [(h, .inr (3, [.ref aK, .ref aF, .ref aS, .ref aZ, .int (nI n), .ref aL, .int (nI sc), .ref aH, .int (nI nc), .ref sA, .ref sF, .int (nI nr), .ref aP, .ref aC, .int (nI np), .int (zI v.2.2.2), .ref mL, .ref mA, .long v.2.2.1, .int (nI mc), .ref tr])), (mL, .inl (cI, 4, .inl ml)), (mA, .inl (cJ, 4, .inr (.inl v.2.1)))])) A
set_option maxHeartbeats 4000000 in
set_option maxRecDepth 100000 in
theorem k_R_share (l : Launch) (dC : Nat → ClassId) (dI : Nat → Nat → Nat) (cJ cI cZ : ClassId) (sz : Nat) (h : Nat) (aK : Nat) (aF : Nat) (aS : Nat) (aZ : Nat) (aL : Nat) (aH : Nat) (sA : Nat) (sF : Nat) (aP : Nat) (aC : Nat) (mL : Nat) (mA : Nat) (tr : Nat) (n : Nat) (sc : Nat) (nc : Nat) (nr : Nat) (np : Nat) (mc : Nat) (ml : Nat → Int32) (v : ModS) (x : Int32) (part : Int32) (hmc : mc ≤ 4) (hmx : v.2.2.2 = true → (∀ j, j < mc → 0 ≤ (v.2.1 j).toInt) ∧ 0 < v.2.2.1.toInt ∧ v.2.2.1.toInt < 2 ^ 50) : Met l y_R_share w_R_share { frames := 1, cells := 0, slots := 0, locals := 30 } (kPc (dC, dI) vwCl [(cJ, .long), (cI, .int), (cZ, .boolean)] [(h, .inr (3, [.ref aK, .ref aF, .ref aS, .ref aZ, .int (nI n), .ref aL, .int (nI sc), .ref aH, .int (nI nc), .ref sA, .ref sF, .int (nI nr), .ref aP, .ref aC, .int (nI np), .int (zI v.2.2.2), .ref mL, .ref mA, .long v.2.2.1, .int (nI mc), .ref tr])), (mL, .inl (cI, 4, .inl ml)), (mA, .inl (cJ, 4, .inr (.inl v.2.1)))] sz [.ref h, .int x, .int part]) (q_R_share dC dI cJ cI cZ h aK aF aS aZ aL aH sA sF aP aC mL mA tr n sc nc nr np mc ml v x part (va_A [(h, .inr (3, [.ref aK, .ref aF, .ref aS, .ref aZ, .int (nI n), .ref aL, .int (nI sc), .ref aH, .int (nI nc), .ref sA, .ref sF, .int (nI nr), .ref aP, .ref aC, .int (nI np), .int (zI v.2.2.2), .ref mL, .ref mA, .long v.2.2.1, .int (nI mc), .ref tr])), (mL, .inl (cI, 4, .inl ml)), (mA, .inl (cJ, 4, .inr (.inl v.2.1)))] sz)) 0 0 (va_A [(h, .inr (3, [.ref aK, .ref aF, .ref aS, .ref aZ, .int (nI n), .ref aL, .int (nI sc), .ref aH, .int (nI nc), .ref sA, .ref sF, .int (nI nr), .ref aP, .ref aC, .int (nI np), .int (zI v.2.2.2), .ref mL, .ref mA, .long v.2.2.1, .int (nI mc), .ref tr])), (mL, .inl (cI, 4, .inl ml)), (mA, .inl (cJ, 4, .inr (.inl v.2.1)))] sz) := by
  refine k_met (q_R_share dC dI cJ cI cZ h aK aF aS aZ aL aH sA sF aP aC mL mA tr n sc nc nr np mc ml v x part) (by decide +kernel) rfl (Nat.le_of_ble_eq_true rfl) ?_
  intro p e s m below meth c A hx hb hr hml hown hts hlocks hin hA H hP hK hD hS ls hl
  have hl : lv_has ls 4 [(0, .ref h), (1, .int x), (2, .int part)] := hl
  have hown : s.vm.findClass R_R = some m.cls := hown
  have hts : ∀ wW ∈ kT, wW.before [.ref h, .int x, .int part].toArray s = true := fun wW hW => hts wW (List.mem_cons_of_mem _ hW)
  refine lv_aload_n hx hb d_R_share_0 rfl (lv_at hl 0 rfl) ?_
  refine va_get (D := (dC, dI)) (ci := 3) (v := .int (zI v.2.2.2)) (C := R_R) (T := T_R) (N := 21) hx hb hts iT_R hown hK hP 0 rfl rfl 15 (by decide) (hts _ wd_251) (fun _ h9 => h9) rfl d_R_share_1 ?_
  refine k_zeq (tgt := 24) hx hb d_R_share_4 (by decide) (fun c_4 => ?_) (fun c_4 => ?_)
  · refine lv_ldc2 (v := (-1)) hx hb hown (hts _ wd_233) d_R_share_24 ?_
    exact k_lret (v := (-1)) hx hb hr hlocks () (by unfold rsA; rw [c_4]; rfl) hP hD hK hS [0, 1, 2] (by decide) rfl d_R_share_27
  · refine lv_aload_n hx hb d_R_share_7 rfl (lv_at hl 0 rfl) ?_
    refine lv_iload_n hx hb d_R_share_8 rfl (lv_at hl 1 rfl) ?_
    refine k_calli (wr := [(mL, .inl (cI, 4, .inl ml)), (mA, .inl (cJ, 4, .inr (.inl v.2.1)))]) (va_runV (As := [.int x]) (rest := []) ⟨hx, hb, hml, hown, hts⟩ (k_R_isLot l dC dI cJ cI cZ _ h aK aF aS aZ aL aH sA sF aP aC mL mA tr n sc nc nr np v.2.2.2 v.2.2.1 mc x) (k_cw (y := y_R_isLot) (own := R_R) hts wd_239 wd_224 wd_238 wd_236 wd_237 hd_R_isLot ⟨Nat.le_of_ble_eq_true rfl, Nat.le_of_ble_eq_true rfl⟩) (k_preV (ci := 3) (q0 := 0) hP hD hK [0] rfl (by decide) rfl rfl) rfl rfl hl.1 rfl (lv_room (Nat.le_of_ble_eq_true rfl)) d_R_share_9 ⟨Nat.le_of_ble_eq_true rfl, Nat.le_of_ble_eq_true rfl⟩) hP hD hS hA [0] [1, 2] rfl rfl (by decide) (by decide) (fun r_9 uu H locs hpo hP hD hS => ?_)
    have hpo : r_9 = zI (lotB n x) := hpo
    subst hpo
    have hP : va_P (dC, dI) vwCl [(mL, .inl (cI, 4, .inl ml)), (mA, .inl (cJ, 4, .inr (.inl v.2.1))), (h, .inr (3, [.ref aK, .ref aF, .ref aS, .ref aZ, .int (nI n), .ref aL, .int (nI sc), .ref aH, .int (nI nc), .ref sA, .ref sF, .int (nI nr), .ref aP, .ref aC, .int (nI np), .int (zI v.2.2.2), .ref mL, .ref mA, .long v.2.2.1, .int (nI mc), .ref tr]))] H := hP
    have hD : va_D A [(mL, .inl (cI, 4, .inl ml)), (mA, .inl (cJ, 4, .inr (.inl v.2.1))), (h, .inr (3, [.ref aK, .ref aF, .ref aS, .ref aZ, .int (nI n), .ref aL, .int (nI sc), .ref aH, .int (nI nc), .ref sA, .ref sF, .int (nI nr), .ref aP, .ref aC, .int (nI np), .int (zI v.2.2.2), .ref mL, .ref mA, .long v.2.2.1, .int (nI mc), .ref tr]))] := hD
    refine k_zeq (tgt := 24) hx hb d_R_share_12 (by decide) (fun c_12 => ?_) (fun c_12 => ?_)
    · refine lv_ldc2 (v := (-1)) hx hb hown (hts _ wd_233) d_R_share_24 ?_
      exact k_lret (v := (-1)) hx hb hr hlocks () (by unfold rsA; rw [c_4, c_12]; rfl) hP hD hK hS [2, 0, 1] (by decide) rfl d_R_share_27
    · refine lv_iload_n hx hb d_R_share_15 rfl (lv_at hl 2 rfl) ?_
      refine lv_if_lt (tgt := 24) hx hb d_R_share_16 (by decide) (fun c_16 => ?_) (fun c_16 => ?_)
      · refine lv_ldc2 (v := (-1)) hx hb hown (hts _ wd_233) d_R_share_24 ?_
        exact k_lret (v := (-1)) hx hb hr hlocks () (by unfold rsA; rw [c_4, c_12, i01_f (Or.inl c_16)]; rfl) hP hD hK hS [2, 0, 1] (by decide) rfl d_R_share_27
      · refine lv_iload_n hx hb d_R_share_19 rfl (lv_at hl 2 rfl) ?_
        refine lv_iconst (v := nI 1) hx hb d_R_share_20 (by decide) ?_
        refine lv_icmp_le (tgt := 28) hx hb d_R_share_21 (by decide) (fun c_21 => ?_) (fun c_21 => ?_)
        · have hR : (v.2.2.2 && (lotB n x && inB part.toInt64 0 1)) = true := by rw [c_4, c_12, i01_t c_16 c_21]; rfl
          obtain ⟨hm1, hm2, hm3⟩ := hmx c_4
          refine lv_iconst (v := nI 0) hx hb d_R_share_28 (by decide) ?_
          refine lv_istore_n (lv' := [(3, .int (nI 0)), (0, .ref h), (1, .int x), (2, .int part)]) hx hb d_R_share_29 rfl hl (by decide) rfl (fun ls hl => ?_)
          have loop_30 : ∀ (fu_30 : Nat) (i : Nat) (hi : i ≤ mc) (hv : fdN (fun j => decide (ml j = x)) (mc - i) i = fd (fun j => decide (ml j = x)) mc) (hfu_30 : mc + 1 ≤ i + fu_30) (H : Heap) (locs : List Loc) (ls : Array Slot), va_P (dC, dI) vwCl [(h, .inr (3, [.ref aK, .ref aF, .ref aS, .ref aZ, .int (nI n), .ref aL, .int (nI sc), .ref aH, .int (nI nc), .ref sA, .ref sF, .int (nI nr), .ref aP, .ref aC, .int (nI np), .int (zI v.2.2.2), .ref mL, .ref mA, .long v.2.2.1, .int (nI mc), .ref tr])), (mL, .inl (cI, 4, .inl ml)), (mA, .inl (cJ, 4, .inr (.inl v.2.1)))] H → va_D A [(h, .inr (3, [.ref aK, .ref aF, .ref aS, .ref aZ, .int (nI n), .ref aL, .int (nI sc), .ref aH, .int (nI nc), .ref sA, .ref sF, .int (nI nr), .ref aP, .ref aC, .int (nI np), .int (zI v.2.2.2), .ref mL, .ref mA, .long v.2.2.1, .int (nI mc), .ref tr])), (mL, .inl (cI, 4, .inl ml)), (mA, .inl (cJ, 4, .inr (.inl v.2.1)))] → va_S A s.heap H locs → lv_has ls 4 [(0, .ref h), (1, .int x), (2, .int part), (3, .int (nI i))] → W p l e { frames := 1, cells := 0, slots := 0, locals := 30 } s m [.ref h, .int x, .int part].toArray below meth c H locs 0 0 (MQ below (q_R_share dC dI cJ cI cZ h aK aF aS aZ aL aH sA sF aP aC mL mA tr n sc nc nr np mc ml v x part A) [.ref h, .int x, .int part].toArray s 0 0 A) (F0 m 30 ls []) := by
            intro fu_30
            induction fu_30 with
            | zero =>
              intro i hi hv hfu_30 H locs ls hP hD hS hl
              exact absurd hfu_30 (by omega)
            | succ fu_30 ih_30 =>
              intro i hi hv hfu_30 H locs ls hP hD hS hl
              refine lv_iload_n hx hb d_R_share_30 rfl (lv_at hl 3 rfl) ?_
              refine lv_aload_n hx hb d_R_share_31 rfl (lv_at hl 0 rfl) ?_
              refine va_get (D := (dC, dI)) (ci := 3) (v := .int (nI mc)) (C := R_R) (T := T_R) (N := 21) hx hb hts iT_R hown hK hP 0 rfl rfl 19 (by decide) (hts _ wd_264) (fun _ h9 => h9) rfl d_R_share_32 ?_
              refine k_nge (tgt := 69) hx hb d_R_share_35 (by decide) (by omega) (by omega) (fun c_35 => ?_) (fun c_35 => ?_)
              · refine lv_iload_n hx hb d_R_share_69 rfl (lv_at hl 2 rfl) ?_
                refine lv_i2l hx hb d_R_share_70 rfl ?_
                exact k_lret (v := part.toInt64) hx hb hr hlocks () (by unfold rsA; rw [if_pos hR, ← hv, fdN_end (P := fun j => decide (ml j = x)) c_35, if_neg (by omega)]) hP hD hK hS [0, 1, 2] (by decide) rfl d_R_share_71
              · refine lv_aload_n hx hb d_R_share_38 rfl (lv_at hl 0 rfl) ?_
                refine va_get (D := (dC, dI)) (ci := 3) (v := .ref mL) (C := R_R) (T := T_R) (N := 21) hx hb hts iT_R hown hK hP 0 rfl rfl 16 (by decide) (hts _ wd_219) (fun _ h9 => h9) rfl d_R_share_39 ?_
                refine lv_iload_n hx hb d_R_share_42 rfl (lv_at hl 3 rfl) ?_
                refine k_iald (j := i) hx hb hK hP 1 1 rfl rfl (by omega) (by decide) d_R_share_43 ?_
                refine lv_iload_n hx hb d_R_share_44 rfl (lv_at hl 1 rfl) ?_
                refine lv_icmp_ne (tgt := 63) hx hb d_R_share_45 (by decide) (fun c_45 => ?_) (fun c_45 => ?_)
                · refine lv_iinc (v := nI (i + 1)) (lv' := [(3, .int (nI (i + 1))), (0, .ref h), (1, .int x), (2, .int part)]) hx hb d_R_share_63 hl (k := 3) rfl (nI_add i 1) (by decide) rfl (fun ls hl => ?_)
                  refine lv_goto (tgt := 30) hx hb d_R_share_66 (by decide) ?_
                  exact ih_30 (i + 1) (by omega) ((fdN_go (P := fun j => decide (ml j = x)) c_35 (decide_eq_false c_45)).symm.trans hv) (by omega) _ _ _ hP hD hS (lv_sub hl [1, 2, 3, 0] rfl)
                · refine lv_aload_n hx hb d_R_share_48 rfl (lv_at hl 0 rfl) ?_
                  refine va_get (D := (dC, dI)) (ci := 3) (v := .ref mA) (C := R_R) (T := T_R) (N := 21) hx hb hts iT_R hown hK hP 0 rfl rfl 17 (by decide) (hts _ wd_220) (fun _ h9 => h9) rfl d_R_share_49 ?_
                  refine lv_iload_n hx hb d_R_share_52 rfl (lv_at hl 3 rfl) ?_
                  refine k_lald (j := i) hx hb hK hP 2 0 rfl rfl (by omega) (by decide) d_R_share_53 ?_
                  refine k_tol (y := lN (v.2.1 i).toInt.toNat) (lN_self (hm1 i c_35)) ?_
                  refine lv_aload_n hx hb d_R_share_54 rfl (lv_at hl 0 rfl) ?_
                  refine va_get (D := (dC, dI)) (ci := 3) (v := .long v.2.2.1) (C := R_R) (T := T_R) (N := 21) hx hb hts iT_R hown hK hP 0 rfl rfl 18 (by decide) (hts _ wd_267) (fun _ h9 => h9) rfl d_R_share_55 ?_
                  refine k_tol (y := lN v.2.2.1.toInt.toNat) (lN_self (by omega)) ?_
                  refine lv_iload_n hx hb d_R_share_58 rfl (lv_at hl 2 rfl) ?_
                  refine k_calll (wr := [(h, .inr (3, [.ref aK, .ref aF, .ref aS, .ref aZ, .int (nI n), .ref aL, .int (nI sc), .ref aH, .int (nI nc), .ref sA, .ref sF, .int (nI nr), .ref aP, .ref aC, .int (nI np), .int (zI v.2.2.2), .ref mL, .ref mA, .long v.2.2.1, .int (nI mc), .ref tr])), (mL, .inl (cI, 4, .inl ml)), (mA, .inl (cJ, 4, .inr (.inl v.2.1)))]) (va_runS (As := [.long (lN (v.2.1 i).toInt.toNat), .long (lN v.2.2.1.toInt.toNat), .int part]) (rest := []) ⟨hx, hb, hml, hown, hts⟩ (k_R_reduced l dC dI cJ cI cZ _ ((v.2.1 i).toInt.toNat) v.2.2.1.toInt.toNat part (toNat_lt _) (by omega) (by omega)) (k_cs (y := y_R_reduced) (own := R_R) hts wd_276 wd_224 wd_275 wd_274 hd_R_reduced ⟨Nat.le_of_ble_eq_true rfl, Nat.le_of_ble_eq_true rfl⟩) (k_preS hP hD hK [] rfl (by decide)) rfl rfl hl.1 rfl (lv_room (Nat.le_of_ble_eq_true rfl)) d_R_share_59 ⟨Nat.le_of_ble_eq_true rfl, Nat.le_of_ble_eq_true rfl⟩) hP hD hS hA [] [0, 1, 2] rfl rfl (by decide) (by decide) (fun r_59 uu H locs hpo hP hD hS => ?_)
                  have hpo : r_59 = rpF ((v.2.1 i).toInt.toNat) v.2.2.1.toInt.toNat part := hpo
                  subst hpo
                  have hP : va_P (dC, dI) vwCl [(h, .inr (3, [.ref aK, .ref aF, .ref aS, .ref aZ, .int (nI n), .ref aL, .int (nI sc), .ref aH, .int (nI nc), .ref sA, .ref sF, .int (nI nr), .ref aP, .ref aC, .int (nI np), .int (zI v.2.2.2), .ref mL, .ref mA, .long v.2.2.1, .int (nI mc), .ref tr])), (mL, .inl (cI, 4, .inl ml)), (mA, .inl (cJ, 4, .inr (.inl v.2.1)))] H := hP
                  have hD : va_D A [(h, .inr (3, [.ref aK, .ref aF, .ref aS, .ref aZ, .int (nI n), .ref aL, .int (nI sc), .ref aH, .int (nI nc), .ref sA, .ref sF, .int (nI nr), .ref aP, .ref aC, .int (nI np), .int (zI v.2.2.2), .ref mL, .ref mA, .long v.2.2.1, .int (nI mc), .ref tr])), (mL, .inl (cI, 4, .inl ml)), (mA, .inl (cJ, 4, .inr (.inl v.2.1)))] := hD
                  exact k_lret (v := rpF ((v.2.1 i).toInt.toNat) v.2.2.1.toInt.toNat part) hx hb hr hlocks () (by unfold rsA; rw [if_pos hR, ← hv, fdN_hit (P := fun j => decide (ml j = x)) c_35 (decide_eq_true c_45), if_pos c_35]) hP hD hK hS [0, 1, 2] (by decide) rfl d_R_share_62
          exact loop_30 (mc + 1) 0 (by omega) rfl (by omega) _ _ _ (hP.sub [2, 0, 1] rfl) (hD.sub [2, 0, 1] (by decide) rfl) hS (lv_sub hl [1, 2, 3, 0] rfl)
        · refine lv_ldc2 (v := (-1)) hx hb hown (hts _ wd_233) d_R_share_24 ?_
          exact k_lret (v := (-1)) hx hb hr hlocks () (by unfold rsA; rw [c_4, c_12, i01_f (Or.inr c_21)]; rfl) hP hD hK hS [2, 0, 1] (by decide) rfl d_R_share_27
