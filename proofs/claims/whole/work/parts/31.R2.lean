/-- R_left -/
abbrev q_R_left (dC : Nat → ClassId) (dI : Nat → Nat → Nat) (cJ cI cZ : ClassId) (h : Nat) (aK : Nat) (aF : Nat) (aS : Nat) (aZ : Nat) (aL : Nat) (aH : Nat) (sA : Nat) (sF : Nat) (aP : Nat) (aC : Nat) (mL : Nat) (mA : Nat) (tr : Nat) (n : Nat) (sc : Nat) (nc : Nat) (nr : Nat) (np : Nat) (mt : Bool) (mb : Int64) (mc : Nat) (ra : Nat → Int64) (rf : Nat → Int64) (w : Int64) (A : Nat → Prop) : Array Value → State → Outcome → State → Prop := va_Ql (fun (r : Int64) (_ : Unit) => r = skF ra rf nr w) (kB (dC, dI) vwCl [(cJ, .long), (cI, .int), (cZ, .boolean)] A (fun (_ : Unit) => [(h, .inr (3, [.ref aK, .ref aF, .ref aS, .ref aZ, .int (nI n), .ref aL, .int (nI sc), .ref aH, .int (nI nc), .ref sA, .ref sF, .int (nI nr), .ref aP, .ref aC, .int (nI np), .int (zI mt), .ref mL, .ref mA, .long mb, .int (nI mc), .ref tr])), (sA, .inl (cJ, 20, .inr (.inl ra))), (sF, .inl (cJ, 20, .inr (.inl rf)))])) A
set_option maxHeartbeats 4000000 in
set_option maxRecDepth 100000 in
theorem k_R_left (l : Launch) (dC : Nat → ClassId) (dI : Nat → Nat → Nat) (cJ cI cZ : ClassId) (sz : Nat) (h : Nat) (aK : Nat) (aF : Nat) (aS : Nat) (aZ : Nat) (aL : Nat) (aH : Nat) (sA : Nat) (sF : Nat) (aP : Nat) (aC : Nat) (mL : Nat) (mA : Nat) (tr : Nat) (n : Nat) (sc : Nat) (nc : Nat) (nr : Nat) (np : Nat) (mt : Bool) (mb : Int64) (mc : Nat) (ra : Nat → Int64) (rf : Nat → Int64) (w : Int64) (hnr : nr ≤ 20) (hA9 : ∀ j, j < nr → 0 ≤ (ra j).toInt ∧ (ra j).toInt ≤ 1000000) (hso : ∀ i, i + 1 < nr → ra i < ra (i + 1)) : Met l y_R_left w_R_left { frames := 0, cells := 0, slots := 0, locals := 0 } (kPc (dC, dI) vwCl [(cJ, .long), (cI, .int), (cZ, .boolean)] [(h, .inr (3, [.ref aK, .ref aF, .ref aS, .ref aZ, .int (nI n), .ref aL, .int (nI sc), .ref aH, .int (nI nc), .ref sA, .ref sF, .int (nI nr), .ref aP, .ref aC, .int (nI np), .int (zI mt), .ref mL, .ref mA, .long mb, .int (nI mc), .ref tr])), (sA, .inl (cJ, 20, .inr (.inl ra))), (sF, .inl (cJ, 20, .inr (.inl rf)))] sz [.ref h, .long w]) (q_R_left dC dI cJ cI cZ h aK aF aS aZ aL aH sA sF aP aC mL mA tr n sc nc nr np mt mb mc ra rf w (va_A [(h, .inr (3, [.ref aK, .ref aF, .ref aS, .ref aZ, .int (nI n), .ref aL, .int (nI sc), .ref aH, .int (nI nc), .ref sA, .ref sF, .int (nI nr), .ref aP, .ref aC, .int (nI np), .int (zI mt), .ref mL, .ref mA, .long mb, .int (nI mc), .ref tr])), (sA, .inl (cJ, 20, .inr (.inl ra))), (sF, .inl (cJ, 20, .inr (.inl rf)))] sz)) 0 0 (va_A [(h, .inr (3, [.ref aK, .ref aF, .ref aS, .ref aZ, .int (nI n), .ref aL, .int (nI sc), .ref aH, .int (nI nc), .ref sA, .ref sF, .int (nI nr), .ref aP, .ref aC, .int (nI np), .int (zI mt), .ref mL, .ref mA, .long mb, .int (nI mc), .ref tr])), (sA, .inl (cJ, 20, .inr (.inl ra))), (sF, .inl (cJ, 20, .inr (.inl rf)))] sz) := by
  refine k_met (q_R_left dC dI cJ cI cZ h aK aF aS aZ aL aH sA sF aP aC mL mA tr n sc nc nr np mt mb mc ra rf w) (by decide +kernel) rfl (Nat.le_of_ble_eq_true rfl) ?_
  intro p e s m below meth c A hx hb hr hml hown hts hlocks hin hA H hP hK hD hS ls hl
  have hl : lv_has ls 10 [(0, .ref h), (1, .long w)] := hl
  have hown : s.vm.findClass R_R = some m.cls := hown
  have hts : ∀ wW ∈ kT, wW.before [.ref h, .long w].toArray s = true := fun wW hW => hts wW (List.mem_cons_of_mem _ hW)
  refine lv_aload_n hx hb d_R_left_0 rfl (lv_at hl 0 rfl) ?_
  refine va_get (D := (dC, dI)) (ci := 3) (v := .int (nI nr)) (C := R_R) (T := T_R) (N := 21) hx hb hts iT_R hown hK hP 0 rfl rfl 11 (by decide) (hts _ wd_247) (fun _ h9 => h9) rfl d_R_left_1 ?_
  refine k_n0ne (tgt := 9) hx hb d_R_left_4 (by decide) (by omega) (fun c_4 => ?_) (fun c_4 => ?_)
  · have cut_36 : ∀  (H : Heap) (locs : List Loc) (ls : Array Slot), va_P (dC, dI) vwCl [(h, .inr (3, [.ref aK, .ref aF, .ref aS, .ref aZ, .int (nI n), .ref aL, .int (nI sc), .ref aH, .int (nI nc), .ref sA, .ref sF, .int (nI nr), .ref aP, .ref aC, .int (nI np), .int (zI mt), .ref mL, .ref mA, .long mb, .int (nI mc), .ref tr])), (sA, .inl (cJ, 20, .inr (.inl ra))), (sF, .inl (cJ, 20, .inr (.inl rf)))] H → va_D A [(h, .inr (3, [.ref aK, .ref aF, .ref aS, .ref aZ, .int (nI n), .ref aL, .int (nI sc), .ref aH, .int (nI nc), .ref sA, .ref sF, .int (nI nr), .ref aP, .ref aC, .int (nI np), .int (zI mt), .ref mL, .ref mA, .long mb, .int (nI mc), .ref tr])), (sA, .inl (cJ, 20, .inr (.inl ra))), (sF, .inl (cJ, 20, .inr (.inl rf)))] → va_S A s.heap H locs → lv_has ls 10 [(0, .ref h), (1, .long w), (3, .int (nI (grF ra w nr)))] → W p l e { frames := 0, cells := 0, slots := 0, locals := 0 } s m [.ref h, .long w].toArray below meth c H locs 0 0 (MQ below (q_R_left dC dI cJ cI cZ h aK aF aS aZ aL aH sA sF aP aC mL mA tr n sc nc nr np mt mb mc ra rf w A) [.ref h, .long w].toArray s 0 0 A) (F0 m 36 ls []) := by
      intro  H locs ls hP hD hS hl
      refine lv_iload_n hx hb d_R_left_36 rfl (lv_at hl 2 rfl) ?_
      have hgl := grF_le ra w nr
      refine k_n0eq (tgt := 48) hx hb d_R_left_37 (by decide) (by omega) (fun c_37 => ?_) (fun c_37 => ?_)
      · refine lv_aload_n hx hb d_R_left_48 rfl (lv_at hl 0 rfl) ?_
        refine va_get (D := (dC, dI)) (ci := 3) (v := .ref sF) (C := R_R) (T := T_R) (N := 21) hx hb hts iT_R hown hK hP 0 rfl rfl 10 (by decide) (hts _ wd_216) (fun _ h9 => h9) rfl d_R_left_49 ?_
        refine lv_iload_n hx hb d_R_left_52 rfl (lv_at hl 2 rfl) ?_
        refine k_n0ne (tgt := 60) hx hb d_R_left_53 (by decide) (by omega) (fun c_53 => ?_) (fun c_53 => ?_)
        · refine lv_aload_n hx hb d_R_left_60 rfl (lv_at hl 0 rfl) ?_
          refine va_get (D := (dC, dI)) (ci := 3) (v := .int (nI nr)) (C := R_R) (T := T_R) (N := 21) hx hb hts iT_R hown hK hP 0 rfl rfl 11 (by decide) (hts _ wd_247) (fun _ h9 => h9) rfl d_R_left_61 ?_
          refine lv_iconst (v := nI 1) hx hb d_R_left_64 (by decide) ?_
          refine lv_isub hx hb d_R_left_65 ?_
          refine k_toi (pk_sub (by omega)) ?_
          refine k_lald (j := nr - 1) hx hb hK hP 2 0 rfl rfl (by omega) (by decide) d_R_left_66 ?_
          exact k_lret (v := rf (nr - 1)) hx hb hr hlocks () (absurd c_37 c_53) hP hD hK hS [0, 1, 2] (by decide) rfl d_R_left_67
        · refine lv_iconst (v := nI 0) hx hb d_R_left_56 (by decide) ?_
          refine lv_goto (tgt := 66) hx hb d_R_left_57 (by decide) ?_
          refine k_lald (j := 0) hx hb hK hP 2 0 rfl rfl (by omega) (by decide) d_R_left_66 ?_
          exact k_lret (v := rf 0) hx hb hr hlocks () ((lf_0 c_4 c_37).symm) hP hD hK hS [0, 1, 2] (by decide) rfl d_R_left_67
      · refine lv_iload_n hx hb d_R_left_40 rfl (lv_at hl 2 rfl) ?_
        refine lv_aload_n hx hb d_R_left_41 rfl (lv_at hl 0 rfl) ?_
        refine va_get (D := (dC, dI)) (ci := 3) (v := .int (nI nr)) (C := R_R) (T := T_R) (N := 21) hx hb hts iT_R hown hK hP 0 rfl rfl 11 (by decide) (hts _ wd_247) (fun _ h9 => h9) rfl d_R_left_42 ?_
        refine k_nne (tgt := 68) hx hb d_R_left_45 (by decide) (by omega) (by omega) (fun c_45 => ?_) (fun c_45 => ?_)
        · refine lv_aload_n hx hb d_R_left_68 rfl (lv_at hl 0 rfl) ?_
          refine va_get (D := (dC, dI)) (ci := 3) (v := .ref sF) (C := R_R) (T := T_R) (N := 21) hx hb hts iT_R hown hK hP 0 rfl rfl 10 (by decide) (hts _ wd_216) (fun _ h9 => h9) rfl d_R_left_69 ?_
          refine lv_iload_n hx hb d_R_left_72 rfl (lv_at hl 2 rfl) ?_
          refine k_lald (j := grF ra w nr) hx hb hK hP 2 0 rfl rfl (by omega) (by decide) d_R_left_73 ?_
          refine lv_aload_n hx hb d_R_left_74 rfl (lv_at hl 0 rfl) ?_
          refine va_get (D := (dC, dI)) (ci := 3) (v := .ref sF) (C := R_R) (T := T_R) (N := 21) hx hb hts iT_R hown hK hP 0 rfl rfl 10 (by decide) (hts _ wd_216) (fun _ h9 => h9) rfl d_R_left_75 ?_
          refine lv_iload_n hx hb d_R_left_78 rfl (lv_at hl 2 rfl) ?_
          refine lv_iconst (v := nI 1) hx hb d_R_left_79 (by decide) ?_
          refine lv_isub hx hb d_R_left_80 ?_
          refine k_toi (pk_sub (by omega)) ?_
          refine k_lald (j := (grF ra w nr) - 1) hx hb hK hP 2 0 rfl rfl (by omega) (by decide) d_R_left_81 ?_
          refine lv_lsub hx hb d_R_left_82 ?_
          refine lv_lload_n hx hb d_R_left_83 rfl (lv_at hl 1 rfl) ?_
          refine lv_aload_n hx hb d_R_left_84 rfl (lv_at hl 0 rfl) ?_
          refine va_get (D := (dC, dI)) (ci := 3) (v := .ref sA) (C := R_R) (T := T_R) (N := 21) hx hb hts iT_R hown hK hP 0 rfl rfl 9 (by decide) (hts _ wd_215) (fun _ h9 => h9) rfl d_R_left_85 ?_
          refine lv_iload_n hx hb d_R_left_88 rfl (lv_at hl 2 rfl) ?_
          refine lv_iconst (v := nI 1) hx hb d_R_left_89 (by decide) ?_
          refine lv_isub hx hb d_R_left_90 ?_
          refine k_toi (pk_sub (by omega)) ?_
          refine k_lald (j := (grF ra w nr) - 1) hx hb hK hP 1 0 rfl rfl (by omega) (by decide) d_R_left_91 ?_
          refine lv_lsub hx hb d_R_left_92 ?_
          refine lv_lmul hx hb d_R_left_93 ?_
          refine lv_lstore (lv' := [(4, .long (((rf (grF ra w nr)) - (rf ((grF ra w nr) - 1))) * (w - (ra ((grF ra w nr) - 1))))), (0, .ref h), (1, .long w), (3, .int (nI (grF ra w nr)))]) hx hb d_R_left_94 hl (by decide) rfl (fun ls hl => ?_)
          refine lv_aload_n hx hb d_R_left_96 rfl (lv_at hl 1 rfl) ?_
          refine va_get (D := (dC, dI)) (ci := 3) (v := .ref sA) (C := R_R) (T := T_R) (N := 21) hx hb hts iT_R hown hK hP 0 rfl rfl 9 (by decide) (hts _ wd_215) (fun _ h9 => h9) rfl d_R_left_97 ?_
          refine lv_iload_n hx hb d_R_left_100 rfl (lv_at hl 3 rfl) ?_
          refine k_lald (j := grF ra w nr) hx hb hK hP 1 0 rfl rfl (by omega) (by decide) d_R_left_101 ?_
          refine lv_aload_n hx hb d_R_left_102 rfl (lv_at hl 1 rfl) ?_
          refine va_get (D := (dC, dI)) (ci := 3) (v := .ref sA) (C := R_R) (T := T_R) (N := 21) hx hb hts iT_R hown hK hP 0 rfl rfl 9 (by decide) (hts _ wd_215) (fun _ h9 => h9) rfl d_R_left_103 ?_
          refine lv_iload_n hx hb d_R_left_106 rfl (lv_at hl 3 rfl) ?_
          refine lv_iconst (v := nI 1) hx hb d_R_left_107 (by decide) ?_
          refine lv_isub hx hb d_R_left_108 ?_
          refine k_toi (pk_sub (by omega)) ?_
          refine k_lald (j := (grF ra w nr) - 1) hx hb hK hP 1 0 rfl rfl (by omega) (by decide) d_R_left_109 ?_
          refine lv_lsub hx hb d_R_left_110 ?_
          refine lv_lstore (lv' := [(6, .long ((ra (grF ra w nr)) - (ra ((grF ra w nr) - 1)))), (4, .long (((rf (grF ra w nr)) - (rf ((grF ra w nr) - 1))) * (w - (ra ((grF ra w nr) - 1))))), (0, .ref h), (1, .long w), (3, .int (nI (grF ra w nr)))]) hx hb d_R_left_111 hl (by decide) rfl (fun ls hl => ?_)
          refine lv_lload hx hb d_R_left_113 (lv_at hl 1 rfl) ?_
          refine lv_lload hx hb d_R_left_115 (lv_at hl 0 rfl) ?_
          refine lv_ldiv hx hb d_R_left_117 (lf_ne c_37 (by omega)) ?_
          refine lv_lstore (lv' := [(8, .long ((((rf (grF ra w nr)) - (rf ((grF ra w nr) - 1))) * (w - (ra ((grF ra w nr) - 1)))) / ((ra (grF ra w nr)) - (ra ((grF ra w nr) - 1))))), (6, .long ((ra (grF ra w nr)) - (ra ((grF ra w nr) - 1)))), (4, .long (((rf (grF ra w nr)) - (rf ((grF ra w nr) - 1))) * (w - (ra ((grF ra w nr) - 1))))), (0, .ref h), (1, .long w), (3, .int (nI (grF ra w nr)))]) hx hb d_R_left_118 hl (by decide) rfl (fun ls hl => ?_)
          refine lv_lload hx hb d_R_left_120 (lv_at hl 0 rfl) ?_
          refine lv_lload hx hb d_R_left_122 (lv_at hl 2 rfl) ?_
          refine lv_lload hx hb d_R_left_124 (lv_at hl 1 rfl) ?_
          refine lv_lrem hx hb d_R_left_126 (lf_ne c_37 (by omega)) ?_
          refine lv_lconst (v := 0) hx hb d_R_left_127 (by decide) ?_
          refine k_jge (tgt := 136) hx hb d_R_left_128 d_R_left_129 (by decide) (fun c_128 => ?_) (fun c_128 => ?_)
          · refine lv_lconst (v := 0) hx hb d_R_left_136 (by decide) ?_
            refine lv_lsub hx hb d_R_left_137 ?_
            refine lv_lstore (lv' := [(8, .long (((((rf (grF ra w nr)) - (rf ((grF ra w nr) - 1))) * (w - (ra ((grF ra w nr) - 1)))) / ((ra (grF ra w nr)) - (ra ((grF ra w nr) - 1)))) - 0)), (6, .long ((ra (grF ra w nr)) - (ra ((grF ra w nr) - 1)))), (4, .long (((rf (grF ra w nr)) - (rf ((grF ra w nr) - 1))) * (w - (ra ((grF ra w nr) - 1))))), (0, .ref h), (1, .long w), (3, .int (nI (grF ra w nr)))]) hx hb d_R_left_138 hl (by decide) rfl (fun ls hl => ?_)
            refine lv_aload_n hx hb d_R_left_140 rfl (lv_at hl 3 rfl) ?_
            refine va_get (D := (dC, dI)) (ci := 3) (v := .ref sF) (C := R_R) (T := T_R) (N := 21) hx hb hts iT_R hown hK hP 0 rfl rfl 10 (by decide) (hts _ wd_216) (fun _ h9 => h9) rfl d_R_left_141 ?_
            refine lv_iload_n hx hb d_R_left_144 rfl (lv_at hl 5 rfl) ?_
            refine lv_iconst (v := nI 1) hx hb d_R_left_145 (by decide) ?_
            refine lv_isub hx hb d_R_left_146 ?_
            refine k_toi (pk_sub (by omega)) ?_
            refine k_lald (j := (grF ra w nr) - 1) hx hb hK hP 2 0 rfl rfl (by omega) (by decide) d_R_left_147 ?_
            refine lv_lload hx hb d_R_left_148 (lv_at hl 0 rfl) ?_
            refine lv_ladd hx hb d_R_left_150 ?_
            exact k_lret (v := (rf ((grF ra w nr) - 1)) + (((((rf (grF ra w nr)) - (rf ((grF ra w nr) - 1))) * (w - (ra ((grF ra w nr) - 1)))) / ((ra (grF ra w nr)) - (ra ((grF ra w nr) - 1)))) - 0)) hx hb hr hlocks () ((lf_m0 hA9 hso c_37 (by omega) rfl rfl c_128).symm) hP hD hK hS [0, 1, 2] (by decide) rfl d_R_left_151
          · refine lv_lconst (v := 1) hx hb d_R_left_132 (by decide) ?_
            refine lv_goto (tgt := 137) hx hb d_R_left_133 (by decide) ?_
            refine lv_lsub hx hb d_R_left_137 ?_
            refine lv_lstore (lv' := [(8, .long (((((rf (grF ra w nr)) - (rf ((grF ra w nr) - 1))) * (w - (ra ((grF ra w nr) - 1)))) / ((ra (grF ra w nr)) - (ra ((grF ra w nr) - 1)))) - 1)), (6, .long ((ra (grF ra w nr)) - (ra ((grF ra w nr) - 1)))), (4, .long (((rf (grF ra w nr)) - (rf ((grF ra w nr) - 1))) * (w - (ra ((grF ra w nr) - 1))))), (0, .ref h), (1, .long w), (3, .int (nI (grF ra w nr)))]) hx hb d_R_left_138 hl (by decide) rfl (fun ls hl => ?_)
            refine lv_aload_n hx hb d_R_left_140 rfl (lv_at hl 3 rfl) ?_
            refine va_get (D := (dC, dI)) (ci := 3) (v := .ref sF) (C := R_R) (T := T_R) (N := 21) hx hb hts iT_R hown hK hP 0 rfl rfl 10 (by decide) (hts _ wd_216) (fun _ h9 => h9) rfl d_R_left_141 ?_
            refine lv_iload_n hx hb d_R_left_144 rfl (lv_at hl 5 rfl) ?_
            refine lv_iconst (v := nI 1) hx hb d_R_left_145 (by decide) ?_
            refine lv_isub hx hb d_R_left_146 ?_
            refine k_toi (pk_sub (by omega)) ?_
            refine k_lald (j := (grF ra w nr) - 1) hx hb hK hP 2 0 rfl rfl (by omega) (by decide) d_R_left_147 ?_
            refine lv_lload hx hb d_R_left_148 (lv_at hl 0 rfl) ?_
            refine lv_ladd hx hb d_R_left_150 ?_
            exact k_lret (v := (rf ((grF ra w nr) - 1)) + (((((rf (grF ra w nr)) - (rf ((grF ra w nr) - 1))) * (w - (ra ((grF ra w nr) - 1)))) / ((ra (grF ra w nr)) - (ra ((grF ra w nr) - 1)))) - 1)) hx hb hr hlocks () ((lf_m1 hA9 hso c_37 (by omega) rfl rfl c_128).symm) hP hD hK hS [0, 1, 2] (by decide) rfl d_R_left_151
        · refine lv_aload_n hx hb d_R_left_48 rfl (lv_at hl 0 rfl) ?_
          refine va_get (D := (dC, dI)) (ci := 3) (v := .ref sF) (C := R_R) (T := T_R) (N := 21) hx hb hts iT_R hown hK hP 0 rfl rfl 10 (by decide) (hts _ wd_216) (fun _ h9 => h9) rfl d_R_left_49 ?_
          refine lv_iload_n hx hb d_R_left_52 rfl (lv_at hl 2 rfl) ?_
          refine k_n0ne (tgt := 60) hx hb d_R_left_53 (by decide) (by omega) (fun c_53 => ?_) (fun c_53 => ?_)
          · refine lv_aload_n hx hb d_R_left_60 rfl (lv_at hl 0 rfl) ?_
            refine va_get (D := (dC, dI)) (ci := 3) (v := .int (nI nr)) (C := R_R) (T := T_R) (N := 21) hx hb hts iT_R hown hK hP 0 rfl rfl 11 (by decide) (hts _ wd_247) (fun _ h9 => h9) rfl d_R_left_61 ?_
            refine lv_iconst (v := nI 1) hx hb d_R_left_64 (by decide) ?_
            refine lv_isub hx hb d_R_left_65 ?_
            refine k_toi (pk_sub (by omega)) ?_
            refine k_lald (j := nr - 1) hx hb hK hP 2 0 rfl rfl (by omega) (by decide) d_R_left_66 ?_
            exact k_lret (v := rf (nr - 1)) hx hb hr hlocks () ((lf_n hso c_4 c_45).symm) hP hD hK hS [0, 1, 2] (by decide) rfl d_R_left_67
          · refine lv_iconst (v := nI 0) hx hb d_R_left_56 (by decide) ?_
            refine lv_goto (tgt := 66) hx hb d_R_left_57 (by decide) ?_
            refine k_lald (j := 0) hx hb hK hP 2 0 rfl rfl (by omega) (by decide) d_R_left_66 ?_
            exact k_lret (v := rf 0) hx hb hr hlocks () (absurd c_53 c_37) hP hD hK hS [0, 1, 2] (by decide) rfl d_R_left_67
    refine lv_iconst (v := nI 0) hx hb d_R_left_9 (by decide) ?_
    refine lv_istore_n (lv' := [(3, .int (nI 0)), (0, .ref h), (1, .long w)]) hx hb d_R_left_10 rfl hl (by decide) rfl (fun ls hl => ?_)
    have loop_11 : ∀ (fu_11 : Nat) (i : Nat) (hi : i ≤ nr) (hv : fdN (fun j => decide (w < ra j)) (nr - i) i = grF ra w nr) (hfu_11 : nr + 1 ≤ i + fu_11) (H : Heap) (locs : List Loc) (ls : Array Slot), va_P (dC, dI) vwCl [(h, .inr (3, [.ref aK, .ref aF, .ref aS, .ref aZ, .int (nI n), .ref aL, .int (nI sc), .ref aH, .int (nI nc), .ref sA, .ref sF, .int (nI nr), .ref aP, .ref aC, .int (nI np), .int (zI mt), .ref mL, .ref mA, .long mb, .int (nI mc), .ref tr])), (sA, .inl (cJ, 20, .inr (.inl ra))), (sF, .inl (cJ, 20, .inr (.inl rf)))] H → va_D A [(h, .inr (3, [.ref aK, .ref aF, .ref aS, .ref aZ, .int (nI n), .ref aL, .int (nI sc), .ref aH, .int (nI nc), .ref sA, .ref sF, .int (nI nr), .ref aP, .ref aC, .int (nI np), .int (zI mt), .ref mL, .ref mA, .long mb, .int (nI mc), .ref tr])), (sA, .inl (cJ, 20, .inr (.inl ra))), (sF, .inl (cJ, 20, .inr (.inl rf)))] → va_S A s.heap H locs → lv_has ls 10 [(0, .ref h), (1, .long w), (3, .int (nI i))] → W p l e { frames := 0, cells := 0, slots := 0, locals := 0 } s m [.ref h, .long w].toArray below meth c H locs 0 0 (MQ below (q_R_left dC dI cJ cI cZ h aK aF aS aZ aL aH sA sF aP aC mL mA tr n sc nc nr np mt mb mc ra rf w A) [.ref h, .long w].toArray s 0 0 A) (F0 m 11 ls []) := by
      intro fu_11
      induction fu_11 with
      | zero =>
        intro i hi hv hfu_11 H locs ls hP hD hS hl
        exact absurd hfu_11 (by omega)
      | succ fu_11 ih_11 =>
        intro i hi hv hfu_11 H locs ls hP hD hS hl
        refine lv_iload_n hx hb d_R_left_11 rfl (lv_at hl 2 rfl) ?_
        refine lv_aload_n hx hb d_R_left_12 rfl (lv_at hl 0 rfl) ?_
        refine va_get (D := (dC, dI)) (ci := 3) (v := .int (nI nr)) (C := R_R) (T := T_R) (N := 21) hx hb hts iT_R hown hK hP 0 rfl rfl 11 (by decide) (hts _ wd_247) (fun _ h9 => h9) rfl d_R_left_13 ?_
        refine k_nge (tgt := 36) hx hb d_R_left_16 (by decide) (by omega) (by omega) (fun c_16 => ?_) (fun c_16 => ?_)
        · obtain rfl : i = grF ra w nr := by rw [← hv, fdN_end (P := fun j => decide (w < ra j)) c_16]
          exact cut_36  _ _ _ hP hD hS hl
        · refine lv_aload_n hx hb d_R_left_19 rfl (lv_at hl 0 rfl) ?_
          refine va_get (D := (dC, dI)) (ci := 3) (v := .ref sA) (C := R_R) (T := T_R) (N := 21) hx hb hts iT_R hown hK hP 0 rfl rfl 9 (by decide) (hts _ wd_215) (fun _ h9 => h9) rfl d_R_left_20 ?_
          refine lv_iload_n hx hb d_R_left_23 rfl (lv_at hl 2 rfl) ?_
          refine k_lald (j := i) hx hb hK hP 1 0 rfl rfl (by omega) (by decide) d_R_left_24 ?_
          refine lv_lload_n hx hb d_R_left_25 rfl (lv_at hl 1 rfl) ?_
          refine k_jgt (tgt := 36) hx hb d_R_left_26 d_R_left_27 (by decide) (fun c_26 => ?_) (fun c_26 => ?_)
          · obtain rfl : i = grF ra w nr := by rw [← hv, fdN_hit (P := fun j => decide (w < ra j)) c_16 (decide_eq_true c_26)]
            exact cut_36  _ _ _ hP hD hS hl
          · refine lv_iinc (v := nI (i + 1)) (lv' := [(3, .int (nI (i + 1))), (0, .ref h), (1, .long w)]) hx hb d_R_left_30 hl (k := 2) rfl (nI_add i 1) (by decide) rfl (fun ls hl => ?_)
            refine lv_goto (tgt := 11) hx hb d_R_left_33 (by decide) ?_
            exact ih_11 (i + 1) (by omega) ((fdN_go (P := fun j => decide (w < ra j)) c_16 (decide_eq_false (Int64.not_lt.mpr c_26))).symm.trans hv) (by omega) _ _ _ hP hD hS (lv_sub hl [1, 2, 0] rfl)
    exact loop_11 (nr + 1) 0 (by omega) rfl (by omega) _ _ _ hP hD hS (lv_sub hl [1, 2, 0] rfl)
  · refine lv_lconst (v := 0) hx hb d_R_left_7 (by decide) ?_
    exact k_lret (v := 0) hx hb hr hlocks () (by unfold skF; rw [if_pos c_4]) hP hD hK hS [0, 1, 2] (by decide) rfl d_R_left_8
/-- R_choose -/
abbrev q_R_choose (dC : Nat → ClassId) (dI : Nat → Nat → Nat) (cJ cI cZ : ClassId) (h : Nat) (aK : Nat) (aF : Nat) (aS : Nat) (aZ : Nat) (aL : Nat) (aH : Nat) (sA : Nat) (sF : Nat) (aP : Nat) (aC : Nat) (mL : Nat) (mA : Nat) (tr : Nat) (n : Nat) (sc : Nat) (nc : Nat) (nr : Nat) (np : Nat) (mt : Bool) (mb : Int64) (mc : Nat) (sp : Nat → Int32) (cn : Nat → Nat) (x : Int32) (A : Nat → Prop) : Array Value → State → Outcome → State → Prop := va_Qi (fun (r : Int32) (_ : Unit) => r = zI (chY n sp cn nc x)) (kB (dC, dI) vwCl [(cJ, .long), (cI, .int), (cZ, .boolean)] A (fun (_ : Unit) => [(h, .inr (3, [.ref aK, .ref aF, .ref aS, .ref aZ, .int (nI n), .ref aL, .int (nI sc), .ref aH, .int (nI (bN (chY n sp cn nc x) (nc + 1) nc)), .ref sA, .ref sF, .int (nI nr), .ref aP, .ref aC, .int (nI np), .int (zI mt), .ref mL, .ref mA, .long mb, .int (nI mc), .ref tr])), (aZ, .inl (cZ, 60, .inl sp)), (aH, .inl (cI, 4, .inl (fun ix => nI ((bC (chY n sp cn nc x) (va_up cn nc x.toNatClampNeg) cn) ix))))])) A
set_option maxHeartbeats 4000000 in
set_option maxRecDepth 100000 in
theorem k_R_choose (l : Launch) (dC : Nat → ClassId) (dI : Nat → Nat → Nat) (cJ cI cZ : ClassId) (sz : Nat) (h : Nat) (aK : Nat) (aF : Nat) (aS : Nat) (aZ : Nat) (aL : Nat) (aH : Nat) (sA : Nat) (sF : Nat) (aP : Nat) (aC : Nat) (mL : Nat) (mA : Nat) (tr : Nat) (n : Nat) (sc : Nat) (nc : Nat) (nr : Nat) (np : Nat) (mt : Bool) (mb : Int64) (mc : Nat) (sp : Nat → Int32) (cn : Nat → Nat) (x : Int32) (hn : n ≤ 60) (hnc : nc ≤ 4) (hcn : ∀ i, i < nc → cn i < 60) : Met l y_R_choose w_R_choose { frames := 1, cells := 0, slots := 0, locals := 21 } (kPc (dC, dI) vwCl [(cJ, .long), (cI, .int), (cZ, .boolean)] [(h, .inr (3, [.ref aK, .ref aF, .ref aS, .ref aZ, .int (nI n), .ref aL, .int (nI sc), .ref aH, .int (nI nc), .ref sA, .ref sF, .int (nI nr), .ref aP, .ref aC, .int (nI np), .int (zI mt), .ref mL, .ref mA, .long mb, .int (nI mc), .ref tr])), (aZ, .inl (cZ, 60, .inl sp)), (aH, .inl (cI, 4, .inl (fun ix => nI (cn ix))))] sz [.ref h, .int x]) (q_R_choose dC dI cJ cI cZ h aK aF aS aZ aL aH sA sF aP aC mL mA tr n sc nc nr np mt mb mc sp cn x (va_A [(h, .inr (3, [.ref aK, .ref aF, .ref aS, .ref aZ, .int (nI n), .ref aL, .int (nI sc), .ref aH, .int (nI nc), .ref sA, .ref sF, .int (nI nr), .ref aP, .ref aC, .int (nI np), .int (zI mt), .ref mL, .ref mA, .long mb, .int (nI mc), .ref tr])), (aZ, .inl (cZ, 60, .inl sp)), (aH, .inl (cI, 4, .inl (fun ix => nI (cn ix))))] sz)) 0 0 (va_A [(h, .inr (3, [.ref aK, .ref aF, .ref aS, .ref aZ, .int (nI n), .ref aL, .int (nI sc), .ref aH, .int (nI nc), .ref sA, .ref sF, .int (nI nr), .ref aP, .ref aC, .int (nI np), .int (zI mt), .ref mL, .ref mA, .long mb, .int (nI mc), .ref tr])), (aZ, .inl (cZ, 60, .inl sp)), (aH, .inl (cI, 4, .inl (fun ix => nI (cn ix))))] sz) := by
  refine k_met (q_R_choose dC dI cJ cI cZ h aK aF aS aZ aL aH sA sF aP aC mL mA tr n sc nc nr np mt mb mc sp cn x) (by decide +kernel) rfl (Nat.le_of_ble_eq_true rfl) ?_
  intro p e s m below meth c A hx hb hr hml hown hts hlocks hin hA H hP hK hD hS ls hl
  have hl : lv_has ls 4 [(0, .ref h), (1, .int x)] := hl
  have hown : s.vm.findClass R_R = some m.cls := hown
  have hts : ∀ wW ∈ kT, wW.before [.ref h, .int x].toArray s = true := fun wW hW => hts wW (List.mem_cons_of_mem _ hW)
  have cut_67 : ∀ (bb : Bool) (hbx : bb = chY n sp cn nc x) (H : Heap) (locs : List Loc) (ls : Array Slot), va_P (dC, dI) vwCl [(h, .inr (3, [.ref aK, .ref aF, .ref aS, .ref aZ, .int (nI n), .ref aL, .int (nI sc), .ref aH, .int (nI nc), .ref sA, .ref sF, .int (nI nr), .ref aP, .ref aC, .int (nI np), .int (zI mt), .ref mL, .ref mA, .long mb, .int (nI mc), .ref tr])), (aZ, .inl (cZ, 60, .inl sp)), (aH, .inl (cI, 4, .inl (fun ix => nI (cn ix))))] H → va_D A [(h, .inr (3, [.ref aK, .ref aF, .ref aS, .ref aZ, .int (nI n), .ref aL, .int (nI sc), .ref aH, .int (nI nc), .ref sA, .ref sF, .int (nI nr), .ref aP, .ref aC, .int (nI np), .int (zI mt), .ref mL, .ref mA, .long mb, .int (nI mc), .ref tr])), (aZ, .inl (cZ, 60, .inl sp)), (aH, .inl (cI, 4, .inl (fun ix => nI (cn ix))))] → va_S A s.heap H locs → lv_has ls 4 [(0, .ref h), (1, .int x), (2, .int (zI bb))] → W p l e { frames := 1, cells := 0, slots := 0, locals := 21 } s m [.ref h, .int x].toArray below meth c H locs 0 0 (MQ below (q_R_choose dC dI cJ cI cZ h aK aF aS aZ aL aH sA sF aP aC mL mA tr n sc nc nr np mt mb mc sp cn x A) [.ref h, .int x].toArray s 0 0 A) (F0 m 67 ls []) := by
    intro bb hbx H locs ls hP hD hS hl
    refine lv_iload_n hx hb d_R_choose_67 rfl (lv_at hl 2 rfl) ?_
    refine k_zeq (tgt := 91) hx hb d_R_choose_68 (by decide) (fun c_68 => ?_) (fun c_68 => ?_)
    · have hF68 : chY n sp cn nc x = false := hbx.symm.trans c_68
      refine lv_iload_n hx hb d_R_choose_91 rfl (lv_at hl 2 rfl) ?_
      have hY : chY n sp cn nc x = false := hF68
      have fq_0 : bN (chY n sp cn nc x) (nc + 1) nc = nc := bN_f hY
      have fq_1 : bC (chY n sp cn nc x) (va_up cn nc x.toNatClampNeg) cn = cn := bC_f hY
      have hP : va_P (dC, dI) vwCl [(h, .inr (3, [.ref aK, .ref aF, .ref aS, .ref aZ, .int (nI n), .ref aL, .int (nI sc), .ref aH, .int (nI (bN (chY n sp cn nc x) (nc + 1) nc)), .ref sA, .ref sF, .int (nI nr), .ref aP, .ref aC, .int (nI np), .int (zI mt), .ref mL, .ref mA, .long mb, .int (nI mc), .ref tr])), (aZ, .inl (cZ, 60, .inl sp)), (aH, .inl (cI, 4, .inl (fun ix => nI ((bC (chY n sp cn nc x) (va_up cn nc x.toNatClampNeg) cn) ix))))] H := by rw [fq_0, fq_1]; exact hP
      have hD : va_D A [(h, .inr (3, [.ref aK, .ref aF, .ref aS, .ref aZ, .int (nI n), .ref aL, .int (nI sc), .ref aH, .int (nI (bN (chY n sp cn nc x) (nc + 1) nc)), .ref sA, .ref sF, .int (nI nr), .ref aP, .ref aC, .int (nI np), .int (zI mt), .ref mL, .ref mA, .long mb, .int (nI mc), .ref tr])), (aZ, .inl (cZ, 60, .inl sp)), (aH, .inl (cI, 4, .inl (fun ix => nI ((bC (chY n sp cn nc x) (va_up cn nc x.toNatClampNeg) cn) ix))))] := by rw [fq_0, fq_1]; exact hD
      exact k_zret (v := zI bb) hx hb hr hlocks (k_zn _) () (by rw [hbx]) hP hD hK hS [0, 1, 2] (by decide) rfl d_R_choose_92
    · have hT68 : chY n sp cn nc x = true := hbx.symm.trans c_68
      obtain ⟨hnc4, j, hj60, hxj⟩ := ch_room (by omega) hT68
      refine lv_aload_n hx hb d_R_choose_71 rfl (lv_at hl 0 rfl) ?_
      refine va_get (D := (dC, dI)) (ci := 3) (v := .ref aH) (C := R_R) (T := T_R) (N := 21) hx hb hts iT_R hown hK hP 0 rfl rfl 7 (by decide) (hts _ wd_214) (fun _ h9 => h9) rfl d_R_choose_72 ?_
      refine lv_aload_n hx hb d_R_choose_75 rfl (lv_at hl 0 rfl) ?_
      refine va_get (D := (dC, dI)) (ci := 3) (v := .int (nI nc)) (C := R_R) (T := T_R) (N := 21) hx hb hts iT_R hown hK hP 0 rfl rfl 8 (by decide) (hts _ wd_245) (fun _ h9 => h9) rfl d_R_choose_76 ?_
      refine lv_iload_n hx hb d_R_choose_79 rfl (lv_at hl 1 rfl) ?_
      refine k_iast (j := nc) hx hb hK hP hD hS 2 1 rfl rfl (by omega) (by decide) d_R_choose_80 (fun H locs hP hD hS => ?_)
      have ef_80 : upd (fun ix => nI (cn ix)) nc x = fun ix => nI (va_up cn nc x.toNatClampNeg ix) := (by rw [show x = nI x.toNatClampNeg by rw [hxj, nI_clamp (by omega)]]; rw [nI_clamp (by rw [hxj, nI_clamp (by omega)]; omega)]; exact upd_nI)
      rw [ef_80] at hP hD
      have hP : va_P (dC, dI) vwCl [(h, .inr (3, [.ref aK, .ref aF, .ref aS, .ref aZ, .int (nI n), .ref aL, .int (nI sc), .ref aH, .int (nI nc), .ref sA, .ref sF, .int (nI nr), .ref aP, .ref aC, .int (nI np), .int (zI mt), .ref mL, .ref mA, .long mb, .int (nI mc), .ref tr])), (aZ, .inl (cZ, 60, .inl sp)), (aH, .inl (cI, 4, .inl (fun ix => nI (va_up cn nc x.toNatClampNeg ix))))] H := hP
      have hD : va_D A [(h, .inr (3, [.ref aK, .ref aF, .ref aS, .ref aZ, .int (nI n), .ref aL, .int (nI sc), .ref aH, .int (nI nc), .ref sA, .ref sF, .int (nI nr), .ref aP, .ref aC, .int (nI np), .int (zI mt), .ref mL, .ref mA, .long mb, .int (nI mc), .ref tr])), (aZ, .inl (cZ, 60, .inl sp)), (aH, .inl (cI, 4, .inl (fun ix => nI (va_up cn nc x.toNatClampNeg ix))))] := hD
      refine lv_aload_n hx hb d_R_choose_81 rfl (lv_at hl 0 rfl) ?_
      refine lv_dup hx hb d_R_choose_82 rfl ?_
      refine va_get (D := (dC, dI)) (ci := 3) (v := .int (nI nc)) (C := R_R) (T := T_R) (N := 21) hx hb hts iT_R hown hK hP 0 rfl rfl 8 (by decide) (hts _ wd_245) (fun _ h9 => h9) rfl d_R_choose_83 ?_
      refine lv_iconst (v := nI 1) hx hb d_R_choose_86 (by decide) ?_
      refine lv_iadd hx hb d_R_choose_87 ?_
      refine k_toi (nI_add nc 1) ?_
      refine va_put (D := (dC, dI)) (ci := 3) (v := .int (nI (nc + 1))) (ty := .int) (C := R_R) (T := T_R) (N := 21) hx hb hts iT_R t_R t_R_ok n_R hown hK hP hD hS 0 rfl rfl 8 (by decide) (hts _ wd_245) (fun _ h9 => h9) rfl (by decide +kernel) rfl rfl (Nat.le_of_ble_eq_true rfl) d_R_choose_88 (fun H locs hP hD hS => ?_)
      have hP : va_P (dC, dI) vwCl [(h, .inr (3, [.ref aK, .ref aF, .ref aS, .ref aZ, .int (nI n), .ref aL, .int (nI sc), .ref aH, .int (nI (nc + 1)), .ref sA, .ref sF, .int (nI nr), .ref aP, .ref aC, .int (nI np), .int (zI mt), .ref mL, .ref mA, .long mb, .int (nI mc), .ref tr])), (aZ, .inl (cZ, 60, .inl sp)), (aH, .inl (cI, 4, .inl (fun ix => nI (va_up cn nc x.toNatClampNeg ix))))] H := hP
      have hD : va_D A [(h, .inr (3, [.ref aK, .ref aF, .ref aS, .ref aZ, .int (nI n), .ref aL, .int (nI sc), .ref aH, .int (nI (nc + 1)), .ref sA, .ref sF, .int (nI nr), .ref aP, .ref aC, .int (nI np), .int (zI mt), .ref mL, .ref mA, .long mb, .int (nI mc), .ref tr])), (aZ, .inl (cZ, 60, .inl sp)), (aH, .inl (cI, 4, .inl (fun ix => nI (va_up cn nc x.toNatClampNeg ix))))] := hD
      refine lv_iload_n hx hb d_R_choose_91 rfl (lv_at hl 2 rfl) ?_
      have hY : chY n sp cn nc x = true := hT68
      have fq_0 : bN (chY n sp cn nc x) (nc + 1) nc = nc + 1 := bN_t hY
      have fq_1 : bC (chY n sp cn nc x) (va_up cn nc x.toNatClampNeg) cn = va_up cn nc x.toNatClampNeg := bC_t hY
      have hP : va_P (dC, dI) vwCl [(h, .inr (3, [.ref aK, .ref aF, .ref aS, .ref aZ, .int (nI n), .ref aL, .int (nI sc), .ref aH, .int (nI (bN (chY n sp cn nc x) (nc + 1) nc)), .ref sA, .ref sF, .int (nI nr), .ref aP, .ref aC, .int (nI np), .int (zI mt), .ref mL, .ref mA, .long mb, .int (nI mc), .ref tr])), (aZ, .inl (cZ, 60, .inl sp)), (aH, .inl (cI, 4, .inl (fun ix => nI ((bC (chY n sp cn nc x) (va_up cn nc x.toNatClampNeg) cn) ix))))] H := by rw [fq_0, fq_1]; exact hP
      have hD : va_D A [(h, .inr (3, [.ref aK, .ref aF, .ref aS, .ref aZ, .int (nI n), .ref aL, .int (nI sc), .ref aH, .int (nI (bN (chY n sp cn nc x) (nc + 1) nc)), .ref sA, .ref sF, .int (nI nr), .ref aP, .ref aC, .int (nI np), .int (zI mt), .ref mL, .ref mA, .long mb, .int (nI mc), .ref tr])), (aZ, .inl (cZ, 60, .inl sp)), (aH, .inl (cI, 4, .inl (fun ix => nI ((bC (chY n sp cn nc x) (va_up cn nc x.toNatClampNeg) cn) ix))))] := by rw [fq_0, fq_1]; exact hD
      exact k_zret (v := zI bb) hx hb hr hlocks (k_zn _) () (by rw [hbx]) hP hD hK hS [0, 1, 2] (by decide) rfl d_R_choose_92
  have loop_33 : ∀ (fu_33 : Nat) (i : Nat) (bb : Bool) (hi : i ≤ nc) (hb1 : bb = true → lotB n x = true ∧ sp x.toNatClampNeg = 0 ∧ nc < 4 ∧ ∀ t, t < i → ¬ nI (cn t) = x) (hb2 : bb = false → chY n sp cn nc x = false) (hfu_33 : nc + 1 ≤ i + fu_33) (H : Heap) (locs : List Loc) (ls : Array Slot), va_P (dC, dI) vwCl [(h, .inr (3, [.ref aK, .ref aF, .ref aS, .ref aZ, .int (nI n), .ref aL, .int (nI sc), .ref aH, .int (nI nc), .ref sA, .ref sF, .int (nI nr), .ref aP, .ref aC, .int (nI np), .int (zI mt), .ref mL, .ref mA, .long mb, .int (nI mc), .ref tr])), (aZ, .inl (cZ, 60, .inl sp)), (aH, .inl (cI, 4, .inl (fun ix => nI (cn ix))))] H → va_D A [(h, .inr (3, [.ref aK, .ref aF, .ref aS, .ref aZ, .int (nI n), .ref aL, .int (nI sc), .ref aH, .int (nI nc), .ref sA, .ref sF, .int (nI nr), .ref aP, .ref aC, .int (nI np), .int (zI mt), .ref mL, .ref mA, .long mb, .int (nI mc), .ref tr])), (aZ, .inl (cZ, 60, .inl sp)), (aH, .inl (cI, 4, .inl (fun ix => nI (cn ix))))] → va_S A s.heap H locs → lv_has ls 4 [(0, .ref h), (1, .int x), (2, .int (zI bb)), (3, .int (nI i))] → W p l e { frames := 1, cells := 0, slots := 0, locals := 21 } s m [.ref h, .int x].toArray below meth c H locs 0 0 (MQ below (q_R_choose dC dI cJ cI cZ h aK aF aS aZ aL aH sA sF aP aC mL mA tr n sc nc nr np mt mb mc sp cn x A) [.ref h, .int x].toArray s 0 0 A) (F0 m 33 ls []) := by
    intro fu_33
    induction fu_33 with
    | zero =>
      intro i bb hi hb1 hb2 hfu_33 H locs ls hP hD hS hl
      exact absurd hfu_33 (by omega)
    | succ fu_33 ih_33 =>
      intro i bb hi hb1 hb2 hfu_33 H locs ls hP hD hS hl
      refine lv_iload_n hx hb d_R_choose_33 rfl (lv_at hl 3 rfl) ?_
      refine lv_aload_n hx hb d_R_choose_34 rfl (lv_at hl 0 rfl) ?_
      refine va_get (D := (dC, dI)) (ci := 3) (v := .int (nI nc)) (C := R_R) (T := T_R) (N := 21) hx hb hts iT_R hown hK hP 0 rfl rfl 8 (by decide) (hts _ wd_245) (fun _ h9 => h9) rfl d_R_choose_35 ?_
      refine k_nge (tgt := 67) hx hb d_R_choose_38 (by decide) (by omega) (by omega) (fun c_38 => ?_) (fun c_38 => ?_)
      · exact cut_67 bb (ch_end (by omega) hnc hcn hb1 hb2 c_38) _ _ _ hP hD hS (lv_sub hl [0, 1, 2] rfl)
      · refine lv_iload_n hx hb d_R_choose_41 rfl (lv_at hl 2 rfl) ?_
        refine k_zeq (tgt := 67) hx hb d_R_choose_42 (by decide) (fun c_42 => ?_) (fun c_42 => ?_)
        · exact cut_67 bb (c_42.trans (hb2 c_42).symm) _ _ _ hP hD hS (lv_sub hl [0, 1, 2] rfl)
        · refine lv_aload_n hx hb d_R_choose_45 rfl (lv_at hl 0 rfl) ?_
          refine va_get (D := (dC, dI)) (ci := 3) (v := .ref aH) (C := R_R) (T := T_R) (N := 21) hx hb hts iT_R hown hK hP 0 rfl rfl 7 (by decide) (hts _ wd_214) (fun _ h9 => h9) rfl d_R_choose_46 ?_
          refine lv_iload_n hx hb d_R_choose_49 rfl (lv_at hl 3 rfl) ?_
          refine k_iald (j := i) hx hb hK hP 2 1 rfl rfl (by omega) (by decide) d_R_choose_50 ?_
          refine lv_iload_n hx hb d_R_choose_51 rfl (lv_at hl 1 rfl) ?_
          refine lv_icmp_eq (tgt := 59) hx hb d_R_choose_52 (by decide) (fun c_52 => ?_) (fun c_52 => ?_)
          · refine lv_iconst (v := nI 0) hx hb d_R_choose_59 (by decide) ?_
            refine k_toi (y := zI false) (by decide) ?_
            refine lv_istore_n (lv' := [(2, .int (zI false)), (0, .ref h), (1, .int x), (3, .int (nI i))]) hx hb d_R_choose_60 rfl hl (by decide) rfl (fun ls hl => ?_)
            refine lv_iinc (v := nI (i + 1)) (lv' := [(3, .int (nI (i + 1))), (2, .int (zI false)), (0, .ref h), (1, .int x)]) hx hb d_R_choose_61 hl (k := 3) rfl (nI_add i 1) (by decide) rfl (fun ls hl => ?_)
            refine lv_goto (tgt := 33) hx hb d_R_choose_64 (by decide) ?_
            exact ih_33 (i + 1) false (by omega) (fun h => absurd h (by decide)) (fun _ => ch_f (by omega) hnc c_38 c_52 (hcn i c_38)) (by omega) _ _ _ hP hD hS (lv_sub hl [2, 3, 1, 0] rfl)
          · refine lv_iconst (v := nI 1) hx hb d_R_choose_55 (by decide) ?_
            refine k_toi (y := zI true) (by decide) ?_
            refine lv_goto (tgt := 60) hx hb d_R_choose_56 (by decide) ?_
            refine lv_istore_n (lv' := [(2, .int (zI true)), (0, .ref h), (1, .int x), (3, .int (nI i))]) hx hb d_R_choose_60 rfl hl (by decide) rfl (fun ls hl => ?_)
            refine lv_iinc (v := nI (i + 1)) (lv' := [(3, .int (nI (i + 1))), (2, .int (zI true)), (0, .ref h), (1, .int x)]) hx hb d_R_choose_61 hl (k := 3) rfl (nI_add i 1) (by decide) rfl (fun ls hl => ?_)
            refine lv_goto (tgt := 33) hx hb d_R_choose_64 (by decide) ?_
            exact ih_33 (i + 1) true (by omega) (fun _ => ch_go hb1 c_42 c_52) (fun h => absurd h (by decide)) (by omega) _ _ _ hP hD hS (lv_sub hl [2, 3, 1, 0] rfl)
  refine lv_aload_n hx hb d_R_choose_0 rfl (lv_at hl 0 rfl) ?_
  refine lv_iload_n hx hb d_R_choose_1 rfl (lv_at hl 1 rfl) ?_
  refine k_calli (wr := [(aZ, .inl (cZ, 60, .inl sp)), (aH, .inl (cI, 4, .inl (fun ix => nI (cn ix))))]) (va_runV (As := [.int x]) (rest := []) ⟨hx, hb, hml, hown, hts⟩ (k_R_isLot l dC dI cJ cI cZ _ h aK aF aS aZ aL aH sA sF aP aC mL mA tr n sc nc nr np mt mb mc x) (k_cw (y := y_R_isLot) (own := R_R) hts wd_239 wd_224 wd_238 wd_236 wd_237 hd_R_isLot ⟨Nat.le_of_ble_eq_true rfl, Nat.le_of_ble_eq_true rfl⟩) (k_preV (ci := 3) (q0 := 0) hP hD hK [0] rfl (by decide) rfl rfl) rfl rfl hl.1 rfl (lv_room (Nat.le_of_ble_eq_true rfl)) d_R_choose_2 ⟨Nat.le_of_ble_eq_true rfl, Nat.le_of_ble_eq_true rfl⟩) hP hD hS hA [0] [1, 2] rfl rfl (by decide) (by decide) (fun r_2 uu H locs hpo hP hD hS => ?_)
  have hpo : r_2 = zI (lotB n x) := hpo
  subst hpo
  have hP : va_P (dC, dI) vwCl [(aZ, .inl (cZ, 60, .inl sp)), (aH, .inl (cI, 4, .inl (fun ix => nI (cn ix)))), (h, .inr (3, [.ref aK, .ref aF, .ref aS, .ref aZ, .int (nI n), .ref aL, .int (nI sc), .ref aH, .int (nI nc), .ref sA, .ref sF, .int (nI nr), .ref aP, .ref aC, .int (nI np), .int (zI mt), .ref mL, .ref mA, .long mb, .int (nI mc), .ref tr]))] H := hP
  have hD : va_D A [(aZ, .inl (cZ, 60, .inl sp)), (aH, .inl (cI, 4, .inl (fun ix => nI (cn ix)))), (h, .inr (3, [.ref aK, .ref aF, .ref aS, .ref aZ, .int (nI n), .ref aL, .int (nI sc), .ref aH, .int (nI nc), .ref sA, .ref sF, .int (nI nr), .ref aP, .ref aC, .int (nI np), .int (zI mt), .ref mL, .ref mA, .long mb, .int (nI mc), .ref tr]))] := hD
  refine k_zeq (tgt := 29) hx hb d_R_choose_5 (by decide) (fun c_5 => ?_) (fun c_5 => ?_)
  · refine lv_iconst (v := nI 0) hx hb d_R_choose_29 (by decide) ?_
    refine k_toi (y := zI false) (by decide) ?_
    refine lv_istore_n (lv' := [(2, .int (zI false)), (0, .ref h), (1, .int x)]) hx hb d_R_choose_30 rfl hl (by decide) rfl (fun ls hl => ?_)
    refine lv_iconst (v := nI 0) hx hb d_R_choose_31 (by decide) ?_
    refine lv_istore_n (lv' := [(3, .int (nI 0)), (2, .int (zI false)), (0, .ref h), (1, .int x)]) hx hb d_R_choose_32 rfl hl (by decide) rfl (fun ls hl => ?_)
    exact loop_33 (nc + 1) 0 false (by omega) (fun h => absurd h (by decide)) (fun _ => (by unfold chY unB; rw [c_5]; rfl)) (by omega) _ _ _ (hP.sub [2, 0, 1] rfl) (hD.sub [2, 0, 1] (by decide) rfl) hS (lv_sub hl [2, 3, 1, 0] rfl)
  · obtain ⟨j, hj, rfl⟩ := lotB_nat (by omega) c_5
    have hcl : (nI j).toNatClampNeg = j := nI_clamp (by omega)
    refine lv_aload_n hx hb d_R_choose_8 rfl (lv_at hl 0 rfl) ?_
    refine va_get (D := (dC, dI)) (ci := 3) (v := .ref aZ) (C := R_R) (T := T_R) (N := 21) hx hb hts iT_R hown hK hP 2 rfl rfl 3 (by decide) (hts _ wd_212) (fun _ h9 => h9) rfl d_R_choose_9 ?_
    refine lv_iload_n hx hb d_R_choose_12 rfl (lv_at hl 1 rfl) ?_
    refine k_zald (j := j) hx hb hK hP 0 2 rfl rfl (by omega) (by decide) d_R_choose_13 ?_
    refine lv_if_ne (tgt := 29) hx hb d_R_choose_14 (by decide) (fun c_14 => ?_) (fun c_14 => ?_)
    · refine lv_iconst (v := nI 0) hx hb d_R_choose_29 (by decide) ?_
      refine k_toi (y := zI false) (by decide) ?_
      refine lv_istore_n (lv' := [(2, .int (zI false)), (0, .ref h), (1, .int (nI j))]) hx hb d_R_choose_30 rfl hl (by decide) rfl (fun ls hl => ?_)
      refine lv_iconst (v := nI 0) hx hb d_R_choose_31 (by decide) ?_
      refine lv_istore_n (lv' := [(3, .int (nI 0)), (2, .int (zI false)), (0, .ref h), (1, .int (nI j))]) hx hb d_R_choose_32 rfl hl (by decide) rfl (fun ls hl => ?_)
      exact loop_33 (nc + 1) 0 false (by omega) (fun h => absurd h (by decide)) (fun _ => (by unfold chY unB; rw [c_5, hcl, decide_eq_false c_14]; rfl)) (by omega) _ _ _ (hP.sub [2, 0, 1] rfl) (hD.sub [2, 0, 1] (by decide) rfl) hS (lv_sub hl [2, 3, 1, 0] rfl)
    · refine lv_aload_n hx hb d_R_choose_17 rfl (lv_at hl 0 rfl) ?_
      refine va_get (D := (dC, dI)) (ci := 3) (v := .int (nI nc)) (C := R_R) (T := T_R) (N := 21) hx hb hts iT_R hown hK hP 2 rfl rfl 8 (by decide) (hts _ wd_245) (fun _ h9 => h9) rfl d_R_choose_18 ?_
      refine lv_iconst (v := nI 4) hx hb d_R_choose_21 (by decide) ?_
      refine k_nge (tgt := 29) hx hb d_R_choose_22 (by decide) (by omega) (by omega) (fun c_22 => ?_) (fun c_22 => ?_)
      · refine lv_iconst (v := nI 0) hx hb d_R_choose_29 (by decide) ?_
        refine k_toi (y := zI false) (by decide) ?_
        refine lv_istore_n (lv' := [(2, .int (zI false)), (0, .ref h), (1, .int (nI j))]) hx hb d_R_choose_30 rfl hl (by decide) rfl (fun ls hl => ?_)
        refine lv_iconst (v := nI 0) hx hb d_R_choose_31 (by decide) ?_
        refine lv_istore_n (lv' := [(3, .int (nI 0)), (2, .int (zI false)), (0, .ref h), (1, .int (nI j))]) hx hb d_R_choose_32 rfl hl (by decide) rfl (fun ls hl => ?_)
        exact loop_33 (nc + 1) 0 false (by omega) (fun h => absurd h (by decide)) (fun _ => (by unfold chY; rw [decide_eq_false (Nat.not_lt.mpr c_22)]; simp)) (by omega) _ _ _ (hP.sub [2, 0, 1] rfl) (hD.sub [2, 0, 1] (by decide) rfl) hS (lv_sub hl [2, 3, 1, 0] rfl)
      · refine lv_iconst (v := nI 1) hx hb d_R_choose_25 (by decide) ?_
        refine k_toi (y := zI true) (by decide) ?_
        refine lv_goto (tgt := 30) hx hb d_R_choose_26 (by decide) ?_
        refine lv_istore_n (lv' := [(2, .int (zI true)), (0, .ref h), (1, .int (nI j))]) hx hb d_R_choose_30 rfl hl (by decide) rfl (fun ls hl => ?_)
        refine lv_iconst (v := nI 0) hx hb d_R_choose_31 (by decide) ?_
        refine lv_istore_n (lv' := [(3, .int (nI 0)), (2, .int (zI true)), (0, .ref h), (1, .int (nI j))]) hx hb d_R_choose_32 rfl hl (by decide) rfl (fun ls hl => ?_)
        exact loop_33 (nc + 1) 0 true (by omega) (fun _ => ⟨c_5, (by rw [hcl]; exact c_14), c_22, fun t ht => absurd ht (Nat.not_lt_zero t)⟩) (fun h => absurd h (by decide)) (by omega) _ _ _ (hP.sub [2, 0, 1] rfl) (hD.sub [2, 0, 1] (by decide) rfl) hS (lv_sub hl [2, 3, 1, 0] rfl)
/-- R_efficiency -/
abbrev q_R_efficiency (dC : Nat → ClassId) (dI : Nat → Nat → Nat) (cJ cI cZ : ClassId) (h : Nat) (aK : Nat) (aF : Nat) (aS : Nat) (aZ : Nat) (aL : Nat) (aH : Nat) (sA : Nat) (sF : Nat) (aP : Nat) (aC : Nat) (mL : Nat) (mA : Nat) (tr : Nat) (n : Nat) (sc : Nat) (nc : Nat) (nr : Nat) (np : Nat) (mt : Bool) (mb : Int64) (mc : Nat) (ra : Nat → Int64) (rf : Nat → Int64) (w : Int64) (a : Int64) (b : Int64) (A : Nat → Prop) : Array Value → State → Outcome → State → Prop := va_Qi (fun (r : Int32) (_ : Unit) => r = zI (efR w a b && putB ra nr w)) (kB (dC, dI) vwCl [(cJ, .long), (cI, .int), (cZ, .boolean)] A (fun (_ : Unit) => [(h, .inr (3, [.ref aK, .ref aF, .ref aS, .ref aZ, .int (nI n), .ref aL, .int (nI sc), .ref aH, .int (nI nc), .ref sA, .ref sF, .int (nI (bN (efR w a b) (putN ra nr w) nr)), .ref aP, .ref aC, .int (nI np), .int (zI mt), .ref mL, .ref mA, .long mb, .int (nI mc), .ref tr])), (sA, .inl (cJ, 20, .inr (.inl (bL (efR w a b) (putA ra nr w) ra)))), (sF, .inl (cJ, 20, .inr (.inl (bL (efR w a b) (putF ra rf nr w (wpF a b)) rf))))])) A
set_option maxHeartbeats 4000000 in
set_option maxRecDepth 100000 in
theorem k_R_efficiency (l : Launch) (dC : Nat → ClassId) (dI : Nat → Nat → Nat) (cJ cI cZ : ClassId) (sz : Nat) (h : Nat) (aK : Nat) (aF : Nat) (aS : Nat) (aZ : Nat) (aL : Nat) (aH : Nat) (sA : Nat) (sF : Nat) (aP : Nat) (aC : Nat) (mL : Nat) (mA : Nat) (tr : Nat) (n : Nat) (sc : Nat) (nc : Nat) (nr : Nat) (np : Nat) (mt : Bool) (mb : Int64) (mc : Nat) (ra : Nat → Int64) (rf : Nat → Int64) (w : Int64) (a : Int64) (b : Int64) (hnr : nr ≤ 20) : Met l y_R_efficiency w_R_efficiency { frames := 1, cells := 0, slots := 0, locals := 24 } (kPc (dC, dI) vwCl [(cJ, .long), (cI, .int), (cZ, .boolean)] [(h, .inr (3, [.ref aK, .ref aF, .ref aS, .ref aZ, .int (nI n), .ref aL, .int (nI sc), .ref aH, .int (nI nc), .ref sA, .ref sF, .int (nI nr), .ref aP, .ref aC, .int (nI np), .int (zI mt), .ref mL, .ref mA, .long mb, .int (nI mc), .ref tr])), (sA, .inl (cJ, 20, .inr (.inl ra))), (sF, .inl (cJ, 20, .inr (.inl rf)))] sz [.ref h, .long w, .long a, .long b]) (q_R_efficiency dC dI cJ cI cZ h aK aF aS aZ aL aH sA sF aP aC mL mA tr n sc nc nr np mt mb mc ra rf w a b (va_A [(h, .inr (3, [.ref aK, .ref aF, .ref aS, .ref aZ, .int (nI n), .ref aL, .int (nI sc), .ref aH, .int (nI nc), .ref sA, .ref sF, .int (nI nr), .ref aP, .ref aC, .int (nI np), .int (zI mt), .ref mL, .ref mA, .long mb, .int (nI mc), .ref tr])), (sA, .inl (cJ, 20, .inr (.inl ra))), (sF, .inl (cJ, 20, .inr (.inl rf)))] sz)) 0 0 (va_A [(h, .inr (3, [.ref aK, .ref aF, .ref aS, .ref aZ, .int (nI n), .ref aL, .int (nI sc), .ref aH, .int (nI nc), .ref sA, .ref sF, .int (nI nr), .ref aP, .ref aC, .int (nI np), .int (zI mt), .ref mL, .ref mA, .long mb, .int (nI mc), .ref tr])), (sA, .inl (cJ, 20, .inr (.inl ra))), (sF, .inl (cJ, 20, .inr (.inl rf)))] sz) := by
  refine k_met (q_R_efficiency dC dI cJ cI cZ h aK aF aS aZ aL aH sA sF aP aC mL mA tr n sc nc nr np mt mb mc ra rf w a b) (by decide +kernel) rfl (Nat.le_of_ble_eq_true rfl) ?_
  intro p e s m below meth c A hx hb hr hml hown hts hlocks hin hA H hP hK hD hS ls hl
  have hl : lv_has ls 12 [(0, .ref h), (1, .long w), (3, .long a), (5, .long b)] := hl
  have hown : s.vm.findClass R_R = some m.cls := hown
  have hts : ∀ wW ∈ kT, wW.before [.ref h, .long w, .long a, .long b].toArray s = true := fun wW hW => hts wW (List.mem_cons_of_mem _ hW)
  refine lv_lload_n hx hb d_R_efficiency_0 rfl (lv_at hl 2 rfl) ?_
  refine lv_lload hx hb d_R_efficiency_1 (lv_at hl 3 rfl) ?_
  refine k_calll (wr := [(h, .inr (3, [.ref aK, .ref aF, .ref aS, .ref aZ, .int (nI n), .ref aL, .int (nI sc), .ref aH, .int (nI nc), .ref sA, .ref sF, .int (nI nr), .ref aP, .ref aC, .int (nI np), .int (zI mt), .ref mL, .ref mA, .long mb, .int (nI mc), .ref tr])), (sA, .inl (cJ, 20, .inr (.inl ra))), (sF, .inl (cJ, 20, .inr (.inl rf)))]) (va_runS (As := [.long a, .long b]) (rest := []) ⟨hx, hb, hml, hown, hts⟩ (k_R_parts l dC dI cJ cI cZ _ a b) (k_cs (y := y_R_parts) (own := R_R) hts wd_231 wd_224 wd_226 wd_225 hd_R_parts ⟨Nat.le_of_ble_eq_true rfl, Nat.le_of_ble_eq_true rfl⟩) (k_preS hP hD hK [] rfl (by decide)) rfl rfl hl.1 rfl (lv_room (Nat.le_of_ble_eq_true rfl)) d_R_efficiency_3 ⟨Nat.le_of_ble_eq_true rfl, Nat.le_of_ble_eq_true rfl⟩) hP hD hS hA [] [0, 1, 2] rfl rfl (by decide) (by decide) (fun r_3 uu H locs hpo hP hD hS => ?_)
  have hpo : r_3 = wpF a b := hpo
  subst hpo
  have hP : va_P (dC, dI) vwCl [(h, .inr (3, [.ref aK, .ref aF, .ref aS, .ref aZ, .int (nI n), .ref aL, .int (nI sc), .ref aH, .int (nI nc), .ref sA, .ref sF, .int (nI nr), .ref aP, .ref aC, .int (nI np), .int (zI mt), .ref mL, .ref mA, .long mb, .int (nI mc), .ref tr])), (sA, .inl (cJ, 20, .inr (.inl ra))), (sF, .inl (cJ, 20, .inr (.inl rf)))] H := hP
  have hD : va_D A [(h, .inr (3, [.ref aK, .ref aF, .ref aS, .ref aZ, .int (nI n), .ref aL, .int (nI sc), .ref aH, .int (nI nc), .ref sA, .ref sF, .int (nI nr), .ref aP, .ref aC, .int (nI np), .int (zI mt), .ref mL, .ref mA, .long mb, .int (nI mc), .ref tr])), (sA, .inl (cJ, 20, .inr (.inl ra))), (sF, .inl (cJ, 20, .inr (.inl rf)))] := hD
  refine lv_lstore (lv' := [(7, .long (wpF a b)), (0, .ref h), (1, .long w), (3, .long a), (5, .long b)]) hx hb d_R_efficiency_6 hl (by decide) rfl (fun ls hl => ?_)
  refine lv_lload_n hx hb d_R_efficiency_8 rfl (lv_at hl 2 rfl) ?_
  refine lv_lconst (v := 1) hx hb d_R_efficiency_9 (by decide) ?_
  refine k_jlt (tgt := 29) hx hb d_R_efficiency_10 d_R_efficiency_11 (by decide) (fun c_10 => ?_) (fun c_10 => ?_)
  · refine lv_iconst (v := nI 0) hx hb d_R_efficiency_29 (by decide) ?_
    have hY : efR w a b = false := by first | (unfold efR inB; rw [decide_eq_false (Int64.not_le.mpr c_10)]; rfl) | (unfold efR inB; rw [decide_eq_true c_10, decide_eq_false (Int64.not_le.mpr c_18)]; rfl) | (unfold efR inB nP; rw [decide_eq_true c_10, decide_eq_true c_18, decide_eq_true (wp_lt c_25)]; rfl)
    have fq_0 : bL (efR w a b) (putA ra nr w) ra = ra := bL_f hY
    have fq_1 : bL (efR w a b) (putF ra rf nr w (wpF a b)) rf = rf := bL_f hY
    have fq_2 : bN (efR w a b) (putN ra nr w) nr = nr := bN_f hY
    have hP : va_P (dC, dI) vwCl [(h, .inr (3, [.ref aK, .ref aF, .ref aS, .ref aZ, .int (nI n), .ref aL, .int (nI sc), .ref aH, .int (nI nc), .ref sA, .ref sF, .int (nI (bN (efR w a b) (putN ra nr w) nr)), .ref aP, .ref aC, .int (nI np), .int (zI mt), .ref mL, .ref mA, .long mb, .int (nI mc), .ref tr])), (sA, .inl (cJ, 20, .inr (.inl (bL (efR w a b) (putA ra nr w) ra)))), (sF, .inl (cJ, 20, .inr (.inl (bL (efR w a b) (putF ra rf nr w (wpF a b)) rf))))] H := by rw [fq_0, fq_1, fq_2]; exact hP
    have hD : va_D A [(h, .inr (3, [.ref aK, .ref aF, .ref aS, .ref aZ, .int (nI n), .ref aL, .int (nI sc), .ref aH, .int (nI nc), .ref sA, .ref sF, .int (nI (bN (efR w a b) (putN ra nr w) nr)), .ref aP, .ref aC, .int (nI np), .int (zI mt), .ref mL, .ref mA, .long mb, .int (nI mc), .ref tr])), (sA, .inl (cJ, 20, .inr (.inl (bL (efR w a b) (putA ra nr w) ra)))), (sF, .inl (cJ, 20, .inr (.inl (bL (efR w a b) (putF ra rf nr w (wpF a b)) rf))))] := by rw [fq_0, fq_1, fq_2]; exact hD
    exact k_zret (v := nI 0) hx hb hr hlocks rfl () (by rw [hY]; rfl) hP hD hK hS [0, 1, 2] (by decide) rfl d_R_efficiency_30
  · refine lv_lload_n hx hb d_R_efficiency_14 rfl (lv_at hl 2 rfl) ?_
    refine lv_ldc2 (v := 1000000) hx hb hown (hts _ wd_223) d_R_efficiency_15 ?_
    refine k_jgt (tgt := 29) hx hb d_R_efficiency_18 d_R_efficiency_19 (by decide) (fun c_18 => ?_) (fun c_18 => ?_)
    · refine lv_iconst (v := nI 0) hx hb d_R_efficiency_29 (by decide) ?_
      have hY : efR w a b = false := by first | (unfold efR inB; rw [decide_eq_false (Int64.not_le.mpr c_10)]; rfl) | (unfold efR inB; rw [decide_eq_true c_10, decide_eq_false (Int64.not_le.mpr c_18)]; rfl) | (unfold efR inB nP; rw [decide_eq_true c_10, decide_eq_true c_18, decide_eq_true (wp_lt c_25)]; rfl)
      have fq_0 : bL (efR w a b) (putA ra nr w) ra = ra := bL_f hY
      have fq_1 : bL (efR w a b) (putF ra rf nr w (wpF a b)) rf = rf := bL_f hY
      have fq_2 : bN (efR w a b) (putN ra nr w) nr = nr := bN_f hY
      have hP : va_P (dC, dI) vwCl [(h, .inr (3, [.ref aK, .ref aF, .ref aS, .ref aZ, .int (nI n), .ref aL, .int (nI sc), .ref aH, .int (nI nc), .ref sA, .ref sF, .int (nI (bN (efR w a b) (putN ra nr w) nr)), .ref aP, .ref aC, .int (nI np), .int (zI mt), .ref mL, .ref mA, .long mb, .int (nI mc), .ref tr])), (sA, .inl (cJ, 20, .inr (.inl (bL (efR w a b) (putA ra nr w) ra)))), (sF, .inl (cJ, 20, .inr (.inl (bL (efR w a b) (putF ra rf nr w (wpF a b)) rf))))] H := by rw [fq_0, fq_1, fq_2]; exact hP
      have hD : va_D A [(h, .inr (3, [.ref aK, .ref aF, .ref aS, .ref aZ, .int (nI n), .ref aL, .int (nI sc), .ref aH, .int (nI nc), .ref sA, .ref sF, .int (nI (bN (efR w a b) (putN ra nr w) nr)), .ref aP, .ref aC, .int (nI np), .int (zI mt), .ref mL, .ref mA, .long mb, .int (nI mc), .ref tr])), (sA, .inl (cJ, 20, .inr (.inl (bL (efR w a b) (putA ra nr w) ra)))), (sF, .inl (cJ, 20, .inr (.inl (bL (efR w a b) (putF ra rf nr w (wpF a b)) rf))))] := by rw [fq_0, fq_1, fq_2]; exact hD
      exact k_zret (v := nI 0) hx hb hr hlocks rfl () (by rw [hY]; rfl) hP hD hK hS [0, 1, 2] (by decide) rfl d_R_efficiency_30
    · refine lv_lload hx hb d_R_efficiency_22 (lv_at hl 0 rfl) ?_
      refine lv_lconst (v := 0) hx hb d_R_efficiency_24 (by decide) ?_
      refine k_jge (tgt := 31) hx hb d_R_efficiency_25 d_R_efficiency_26 (by decide) (fun c_25 => ?_) (fun c_25 => ?_)
      · have hE : efR w a b = true := by unfold efR inB nP; rw [decide_eq_true c_10, decide_eq_true c_18, decide_eq_false (wp_ge c_25)]; rfl
        have hrn := rowF_le ra w nr
        refine lv_iconst (v := nI 0) hx hb d_R_efficiency_31 (by decide) ?_
        have cut_61 : ∀  (H : Heap) (locs : List Loc) (ls : Array Slot), va_P (dC, dI) vwCl [(h, .inr (3, [.ref aK, .ref aF, .ref aS, .ref aZ, .int (nI n), .ref aL, .int (nI sc), .ref aH, .int (nI nc), .ref sA, .ref sF, .int (nI nr), .ref aP, .ref aC, .int (nI np), .int (zI mt), .ref mL, .ref mA, .long mb, .int (nI mc), .ref tr])), (sA, .inl (cJ, 20, .inr (.inl ra))), (sF, .inl (cJ, 20, .inr (.inl rf)))] H → va_D A [(h, .inr (3, [.ref aK, .ref aF, .ref aS, .ref aZ, .int (nI n), .ref aL, .int (nI sc), .ref aH, .int (nI nc), .ref sA, .ref sF, .int (nI nr), .ref aP, .ref aC, .int (nI np), .int (zI mt), .ref mL, .ref mA, .long mb, .int (nI mc), .ref tr])), (sA, .inl (cJ, 20, .inr (.inl ra))), (sF, .inl (cJ, 20, .inr (.inl rf)))] → va_S A s.heap H locs → lv_has ls 12 [(0, .ref h), (1, .long w), (3, .long a), (5, .long b), (7, .long (wpF a b)), (9, .int (nI (rowF ra w nr)))] → W p l e { frames := 1, cells := 0, slots := 0, locals := 24 } s m [.ref h, .long w, .long a, .long b].toArray below meth c H locs 0 0 (MQ below (q_R_efficiency dC dI cJ cI cZ h aK aF aS aZ aL aH sA sF aP aC mL mA tr n sc nc nr np mt mb mc ra rf w a b A) [.ref h, .long w, .long a, .long b].toArray s 0 0 A) (F0 m 61 ls []) := by
          intro  H locs ls hP hD hS hl
          refine lv_iload hx hb d_R_efficiency_61 (lv_at hl 5 rfl) ?_
          refine lv_aload_n hx hb d_R_efficiency_63 rfl (lv_at hl 0 rfl) ?_
          refine va_get (D := (dC, dI)) (ci := 3) (v := .int (nI nr)) (C := R_R) (T := T_R) (N := 21) hx hb hts iT_R hown hK hP 0 rfl rfl 11 (by decide) (hts _ wd_247) (fun _ h9 => h9) rfl d_R_efficiency_64 ?_
          refine k_nge (tgt := 86) hx hb d_R_efficiency_67 (by decide) (by omega) (by omega) (fun c_67 => ?_) (fun c_67 => ?_)
          · refine lv_iconst (v := nI 0) hx hb d_R_efficiency_86 (by decide) ?_
            refine k_toi (y := zI false) (by decide) ?_
            refine lv_istore (lv' := [(10, .int (zI false)), (0, .ref h), (1, .long w), (3, .long a), (5, .long b), (7, .long (wpF a b)), (9, .int (nI (rowF ra w nr)))]) hx hb d_R_efficiency_87 hl (by decide) rfl (fun ls hl => ?_)
            refine lv_iload hx hb d_R_efficiency_89 (lv_at hl 0 rfl) ?_
            refine k_zne (tgt := 105) hx hb d_R_efficiency_91 (by decide) (fun h9 => absurd h9 (by decide)) (fun _ => ?_)
            refine lv_aload_n hx hb d_R_efficiency_94 rfl (lv_at hl 1 rfl) ?_
            refine va_get (D := (dC, dI)) (ci := 3) (v := .int (nI nr)) (C := R_R) (T := T_R) (N := 21) hx hb hts iT_R hown hK hP 0 rfl rfl 11 (by decide) (hts _ wd_247) (fun _ h9 => h9) rfl d_R_efficiency_95 ?_
            refine lv_bipush (v := nI 20) hx hb d_R_efficiency_98 (by decide) ?_
            refine k_nne (tgt := 105) hx hb d_R_efficiency_100 (by decide) (by omega) (by omega) (fun c_100 => ?_) (fun c_100 => ?_)
            · refine lv_aload_n hx hb d_R_efficiency_105 rfl (lv_at hl 1 rfl) ?_
              refine va_get (D := (dC, dI)) (ci := 3) (v := .int (nI nr)) (C := R_R) (T := T_R) (N := 21) hx hb hts iT_R hown hK hP 0 rfl rfl 11 (by decide) (hts _ wd_247) (fun _ h9 => h9) rfl d_R_efficiency_106 ?_
              refine lv_istore (lv' := [(11, .int (nI nr)), (10, .int (zI false)), (0, .ref h), (1, .long w), (3, .long a), (5, .long b), (7, .long (wpF a b)), (9, .int (nI (rowF ra w nr)))]) hx hb d_R_efficiency_109 hl (by decide) rfl (fun ls hl => ?_)
              have hP : va_P (dC, dI) vwCl [(h, .inr (3, [.ref aK, .ref aF, .ref aS, .ref aZ, .int (nI n), .ref aL, .int (nI sc), .ref aH, .int (nI nc), .ref sA, .ref sF, .int (nI nr), .ref aP, .ref aC, .int (nI np), .int (zI mt), .ref mL, .ref mA, .long mb, .int (nI mc), .ref tr])), (sA, .inl (cJ, 20, .inr (.inl (shf ra nr nr)))), (sF, .inl (cJ, 20, .inr (.inl rf)))] H := by rw [shf_n ra nr]; exact hP
              have hD : va_D A [(h, .inr (3, [.ref aK, .ref aF, .ref aS, .ref aZ, .int (nI n), .ref aL, .int (nI sc), .ref aH, .int (nI nc), .ref sA, .ref sF, .int (nI nr), .ref aP, .ref aC, .int (nI np), .int (zI mt), .ref mL, .ref mA, .long mb, .int (nI mc), .ref tr])), (sA, .inl (cJ, 20, .inr (.inl (shf ra nr nr)))), (sF, .inl (cJ, 20, .inr (.inl rf)))] := by rw [shf_n ra nr]; exact hD
              have hP : va_P (dC, dI) vwCl [(h, .inr (3, [.ref aK, .ref aF, .ref aS, .ref aZ, .int (nI n), .ref aL, .int (nI sc), .ref aH, .int (nI nc), .ref sA, .ref sF, .int (nI nr), .ref aP, .ref aC, .int (nI np), .int (zI mt), .ref mL, .ref mA, .long mb, .int (nI mc), .ref tr])), (sA, .inl (cJ, 20, .inr (.inl (shf ra nr nr)))), (sF, .inl (cJ, 20, .inr (.inl (shf rf nr nr))))] H := by rw [shf_n rf nr]; exact hP
              have hD : va_D A [(h, .inr (3, [.ref aK, .ref aF, .ref aS, .ref aZ, .int (nI n), .ref aL, .int (nI sc), .ref aH, .int (nI nc), .ref sA, .ref sF, .int (nI nr), .ref aP, .ref aC, .int (nI np), .int (zI mt), .ref mL, .ref mA, .long mb, .int (nI mc), .ref tr])), (sA, .inl (cJ, 20, .inr (.inl (shf ra nr nr)))), (sF, .inl (cJ, 20, .inr (.inl (shf rf nr nr))))] := by rw [shf_n rf nr]; exact hD
              have loop_111 : ∀ (fu_111 : Nat) (i : Nat) (hi : i ≤ nr) (hir : rowF ra w nr ≤ i) (hfu_111 : i + 1 ≤ rowF ra w nr + fu_111) (H : Heap) (locs : List Loc) (ls : Array Slot), va_P (dC, dI) vwCl [(h, .inr (3, [.ref aK, .ref aF, .ref aS, .ref aZ, .int (nI n), .ref aL, .int (nI sc), .ref aH, .int (nI nc), .ref sA, .ref sF, .int (nI nr), .ref aP, .ref aC, .int (nI np), .int (zI mt), .ref mL, .ref mA, .long mb, .int (nI mc), .ref tr])), (sA, .inl (cJ, 20, .inr (.inl (shf ra i nr)))), (sF, .inl (cJ, 20, .inr (.inl (shf rf i nr))))] H → va_D A [(h, .inr (3, [.ref aK, .ref aF, .ref aS, .ref aZ, .int (nI n), .ref aL, .int (nI sc), .ref aH, .int (nI nc), .ref sA, .ref sF, .int (nI nr), .ref aP, .ref aC, .int (nI np), .int (zI mt), .ref mL, .ref mA, .long mb, .int (nI mc), .ref tr])), (sA, .inl (cJ, 20, .inr (.inl (shf ra i nr)))), (sF, .inl (cJ, 20, .inr (.inl (shf rf i nr))))] → va_S A s.heap H locs → lv_has ls 12 [(0, .ref h), (1, .long w), (7, .long (wpF a b)), (9, .int (nI (rowF ra w nr))), (10, .int (zI false)), (11, .int (nI i))] → W p l e { frames := 1, cells := 0, slots := 0, locals := 24 } s m [.ref h, .long w, .long a, .long b].toArray below meth c H locs 0 0 (MQ below (q_R_efficiency dC dI cJ cI cZ h aK aF aS aZ aL aH sA sF aP aC mL mA tr n sc nc nr np mt mb mc ra rf w a b A) [.ref h, .long w, .long a, .long b].toArray s 0 0 A) (F0 m 111 ls []) := by
                intro fu_111
                induction fu_111 with
                | zero =>
                  intro i hi hir hfu_111 H locs ls hP hD hS hl
                  exact absurd hfu_111 (by omega)
                | succ fu_111 ih_111 =>
                  intro i hi hir hfu_111 H locs ls hP hD hS hl
                  refine lv_iload hx hb d_R_efficiency_111 (lv_at hl 5 rfl) ?_
                  refine lv_iload hx hb d_R_efficiency_113 (lv_at hl 3 rfl) ?_
                  refine k_nle (tgt := 161) hx hb d_R_efficiency_115 (by decide) (by omega) (by omega) (fun c_115 => ?_) (fun c_115 => ?_)
                  · obtain rfl : i = rowF ra w nr := by omega
                    refine lv_aload_n hx hb d_R_efficiency_161 rfl (lv_at hl 0 rfl) ?_
                    refine lv_dup hx hb d_R_efficiency_162 rfl ?_
                    refine va_get (D := (dC, dI)) (ci := 3) (v := .int (nI nr)) (C := R_R) (T := T_R) (N := 21) hx hb hts iT_R hown hK hP 0 rfl rfl 11 (by decide) (hts _ wd_247) (fun _ h9 => h9) rfl d_R_efficiency_163 ?_
                    refine lv_iload hx hb d_R_efficiency_166 (lv_at hl 4 rfl) ?_
                    refine k_zeq (tgt := 175) hx hb d_R_efficiency_168 (by decide) (fun _ => ?_) (fun h9 => absurd h9 (by decide))
                    refine lv_iconst (v := nI 1) hx hb d_R_efficiency_175 (by decide) ?_
                    refine lv_iadd hx hb d_R_efficiency_176 ?_
                    refine k_toi (nI_add nr 1) ?_
                    refine va_put (D := (dC, dI)) (ci := 3) (v := .int (nI (nr + 1))) (ty := .int) (C := R_R) (T := T_R) (N := 21) hx hb hts iT_R t_R t_R_ok n_R hown hK hP hD hS 0 rfl rfl 11 (by decide) (hts _ wd_247) (fun _ h9 => h9) rfl (by decide +kernel) rfl rfl (Nat.le_of_ble_eq_true rfl) d_R_efficiency_177 (fun H locs hP hD hS => ?_)
                    have hP : va_P (dC, dI) vwCl [(h, .inr (3, [.ref aK, .ref aF, .ref aS, .ref aZ, .int (nI n), .ref aL, .int (nI sc), .ref aH, .int (nI nc), .ref sA, .ref sF, .int (nI (nr + 1)), .ref aP, .ref aC, .int (nI np), .int (zI mt), .ref mL, .ref mA, .long mb, .int (nI mc), .ref tr])), (sA, .inl (cJ, 20, .inr (.inl (shf ra (rowF ra w nr) nr)))), (sF, .inl (cJ, 20, .inr (.inl (shf rf (rowF ra w nr) nr))))] H := hP
                    have hD : va_D A [(h, .inr (3, [.ref aK, .ref aF, .ref aS, .ref aZ, .int (nI n), .ref aL, .int (nI sc), .ref aH, .int (nI nc), .ref sA, .ref sF, .int (nI (nr + 1)), .ref aP, .ref aC, .int (nI np), .int (zI mt), .ref mL, .ref mA, .long mb, .int (nI mc), .ref tr])), (sA, .inl (cJ, 20, .inr (.inl (shf ra (rowF ra w nr) nr)))), (sF, .inl (cJ, 20, .inr (.inl (shf rf (rowF ra w nr) nr))))] := hD
                    refine lv_aload_n hx hb d_R_efficiency_180 rfl (lv_at hl 0 rfl) ?_
                    refine va_get (D := (dC, dI)) (ci := 3) (v := .ref sA) (C := R_R) (T := T_R) (N := 21) hx hb hts iT_R hown hK hP 0 rfl rfl 9 (by decide) (hts _ wd_215) (fun _ h9 => h9) rfl d_R_efficiency_181 ?_
                    refine lv_iload hx hb d_R_efficiency_184 (lv_at hl 3 rfl) ?_
                    refine lv_lload_n hx hb d_R_efficiency_186 rfl (lv_at hl 1 rfl) ?_
                    refine k_last (j := rowF ra w nr) hx hb hK hP hD hS 1 0 rfl rfl (by omega) (by decide) d_R_efficiency_187 (fun H locs hP hD hS => ?_)
                    have hP : va_P (dC, dI) vwCl [(h, .inr (3, [.ref aK, .ref aF, .ref aS, .ref aZ, .int (nI n), .ref aL, .int (nI sc), .ref aH, .int (nI nc), .ref sA, .ref sF, .int (nI (nr + 1)), .ref aP, .ref aC, .int (nI np), .int (zI mt), .ref mL, .ref mA, .long mb, .int (nI mc), .ref tr])), (sA, .inl (cJ, 20, .inr (.inl (vp_updL (shf ra (rowF ra w nr) nr) (rowF ra w nr) w)))), (sF, .inl (cJ, 20, .inr (.inl (shf rf (rowF ra w nr) nr))))] H := hP
                    have hD : va_D A [(h, .inr (3, [.ref aK, .ref aF, .ref aS, .ref aZ, .int (nI n), .ref aL, .int (nI sc), .ref aH, .int (nI nc), .ref sA, .ref sF, .int (nI (nr + 1)), .ref aP, .ref aC, .int (nI np), .int (zI mt), .ref mL, .ref mA, .long mb, .int (nI mc), .ref tr])), (sA, .inl (cJ, 20, .inr (.inl (vp_updL (shf ra (rowF ra w nr) nr) (rowF ra w nr) w)))), (sF, .inl (cJ, 20, .inr (.inl (shf rf (rowF ra w nr) nr))))] := hD
                    refine lv_aload_n hx hb d_R_efficiency_188 rfl (lv_at hl 0 rfl) ?_
                    refine va_get (D := (dC, dI)) (ci := 3) (v := .ref sF) (C := R_R) (T := T_R) (N := 21) hx hb hts iT_R hown hK hP 0 rfl rfl 10 (by decide) (hts _ wd_216) (fun _ h9 => h9) rfl d_R_efficiency_189 ?_
                    refine lv_iload hx hb d_R_efficiency_192 (lv_at hl 3 rfl) ?_
                    refine lv_lload hx hb d_R_efficiency_194 (lv_at hl 2 rfl) ?_
                    refine k_last (j := rowF ra w nr) hx hb hK hP hD hS 2 0 rfl rfl (by omega) (by decide) d_R_efficiency_196 (fun H locs hP hD hS => ?_)
                    have hP : va_P (dC, dI) vwCl [(h, .inr (3, [.ref aK, .ref aF, .ref aS, .ref aZ, .int (nI n), .ref aL, .int (nI sc), .ref aH, .int (nI nc), .ref sA, .ref sF, .int (nI (nr + 1)), .ref aP, .ref aC, .int (nI np), .int (zI mt), .ref mL, .ref mA, .long mb, .int (nI mc), .ref tr])), (sA, .inl (cJ, 20, .inr (.inl (vp_updL (shf ra (rowF ra w nr) nr) (rowF ra w nr) w)))), (sF, .inl (cJ, 20, .inr (.inl (vp_updL (shf rf (rowF ra w nr) nr) (rowF ra w nr) (wpF a b)))))] H := hP
                    have hD : va_D A [(h, .inr (3, [.ref aK, .ref aF, .ref aS, .ref aZ, .int (nI n), .ref aL, .int (nI sc), .ref aH, .int (nI nc), .ref sA, .ref sF, .int (nI (nr + 1)), .ref aP, .ref aC, .int (nI np), .int (zI mt), .ref mL, .ref mA, .long mb, .int (nI mc), .ref tr])), (sA, .inl (cJ, 20, .inr (.inl (vp_updL (shf ra (rowF ra w nr) nr) (rowF ra w nr) w)))), (sF, .inl (cJ, 20, .inr (.inl (vp_updL (shf rf (rowF ra w nr) nr) (rowF ra w nr) (wpF a b)))))] := hD
                    refine lv_iconst (v := nI 1) hx hb d_R_efficiency_197 (by decide) ?_
                    have hno : ¬ (rowF ra w nr < nr ∧ ra (rowF ra w nr) = w) := (fun h => absurd h.1 (Nat.not_lt.mpr c_67))
                    have fq_0 : bL (efR w a b) (putA ra nr w) ra = vp_updL (shf ra (rowF ra w nr) nr) (rowF ra w nr) w := (bL_t hE).trans (by unfold putA; rw [if_neg hno, if_neg (show ¬ 20 ≤ nr by omega)])
                    have fq_1 : bL (efR w a b) (putF ra rf nr w (wpF a b)) rf = vp_updL (shf rf (rowF ra w nr) nr) (rowF ra w nr) (wpF a b) := (bL_t hE).trans (by unfold putF; rw [if_neg hno, if_neg (show ¬ 20 ≤ nr by omega)])
                    have fq_2 : bN (efR w a b) (putN ra nr w) nr = nr + 1 := (bN_t hE).trans (by unfold putN; rw [if_neg hno, if_neg (show ¬ 20 ≤ nr by omega)])
                    have hP : va_P (dC, dI) vwCl [(h, .inr (3, [.ref aK, .ref aF, .ref aS, .ref aZ, .int (nI n), .ref aL, .int (nI sc), .ref aH, .int (nI nc), .ref sA, .ref sF, .int (nI (bN (efR w a b) (putN ra nr w) nr)), .ref aP, .ref aC, .int (nI np), .int (zI mt), .ref mL, .ref mA, .long mb, .int (nI mc), .ref tr])), (sA, .inl (cJ, 20, .inr (.inl (bL (efR w a b) (putA ra nr w) ra)))), (sF, .inl (cJ, 20, .inr (.inl (bL (efR w a b) (putF ra rf nr w (wpF a b)) rf))))] H := by rw [fq_0, fq_1, fq_2]; exact hP
                    have hD : va_D A [(h, .inr (3, [.ref aK, .ref aF, .ref aS, .ref aZ, .int (nI n), .ref aL, .int (nI sc), .ref aH, .int (nI nc), .ref sA, .ref sF, .int (nI (bN (efR w a b) (putN ra nr w) nr)), .ref aP, .ref aC, .int (nI np), .int (zI mt), .ref mL, .ref mA, .long mb, .int (nI mc), .ref tr])), (sA, .inl (cJ, 20, .inr (.inl (bL (efR w a b) (putA ra nr w) ra)))), (sF, .inl (cJ, 20, .inr (.inl (bL (efR w a b) (putF ra rf nr w (wpF a b)) rf))))] := by rw [fq_0, fq_1, fq_2]; exact hD
                    exact k_zret (v := nI 1) hx hb hr hlocks rfl () (by rw [hE]; unfold putB; rw [if_neg hno, if_neg (show ¬ 20 ≤ nr by omega)]; rfl) hP hD hK hS [0, 1, 2] (by decide) rfl d_R_efficiency_198
                  · refine lv_iload hx hb d_R_efficiency_118 (lv_at hl 4 rfl) ?_
                    refine k_zne (tgt := 161) hx hb d_R_efficiency_120 (by decide) (fun h9 => absurd h9 (by decide)) (fun _ => ?_)
                    refine lv_aload_n hx hb d_R_efficiency_123 rfl (lv_at hl 0 rfl) ?_
                    refine va_get (D := (dC, dI)) (ci := 3) (v := .ref sA) (C := R_R) (T := T_R) (N := 21) hx hb hts iT_R hown hK hP 0 rfl rfl 9 (by decide) (hts _ wd_215) (fun _ h9 => h9) rfl d_R_efficiency_124 ?_
                    refine lv_iload hx hb d_R_efficiency_127 (lv_at hl 5 rfl) ?_
                    refine lv_aload_n hx hb d_R_efficiency_129 rfl (lv_at hl 0 rfl) ?_
                    refine va_get (D := (dC, dI)) (ci := 3) (v := .ref sA) (C := R_R) (T := T_R) (N := 21) hx hb hts iT_R hown hK hP 0 rfl rfl 9 (by decide) (hts _ wd_215) (fun _ h9 => h9) rfl d_R_efficiency_130 ?_
                    refine lv_iload hx hb d_R_efficiency_133 (lv_at hl 5 rfl) ?_
                    refine lv_iconst (v := nI 1) hx hb d_R_efficiency_135 (by decide) ?_
                    refine lv_isub hx hb d_R_efficiency_136 ?_
                    refine k_toi (pk_sub (by omega)) ?_
                    refine k_lald (j := i - 1) hx hb hK hP 1 0 rfl rfl (by omega) (by decide) d_R_efficiency_137 ?_
                    refine k_last (j := i) hx hb hK hP hD hS 1 0 rfl rfl (by omega) (by decide) d_R_efficiency_138 (fun H locs hP hD hS => ?_)
                    have ef_138 : vp_updL (shf ra i nr) i ((shf ra i nr) (i - 1)) = shf ra (i - 1) nr := shf_step ra (by omega) hi
                    rw [ef_138] at hP hD
                    have hP : va_P (dC, dI) vwCl [(h, .inr (3, [.ref aK, .ref aF, .ref aS, .ref aZ, .int (nI n), .ref aL, .int (nI sc), .ref aH, .int (nI nc), .ref sA, .ref sF, .int (nI nr), .ref aP, .ref aC, .int (nI np), .int (zI mt), .ref mL, .ref mA, .long mb, .int (nI mc), .ref tr])), (sA, .inl (cJ, 20, .inr (.inl (shf ra (i - 1) nr)))), (sF, .inl (cJ, 20, .inr (.inl (shf rf i nr))))] H := hP
                    have hD : va_D A [(h, .inr (3, [.ref aK, .ref aF, .ref aS, .ref aZ, .int (nI n), .ref aL, .int (nI sc), .ref aH, .int (nI nc), .ref sA, .ref sF, .int (nI nr), .ref aP, .ref aC, .int (nI np), .int (zI mt), .ref mL, .ref mA, .long mb, .int (nI mc), .ref tr])), (sA, .inl (cJ, 20, .inr (.inl (shf ra (i - 1) nr)))), (sF, .inl (cJ, 20, .inr (.inl (shf rf i nr))))] := hD
                    refine lv_aload_n hx hb d_R_efficiency_139 rfl (lv_at hl 0 rfl) ?_
                    refine va_get (D := (dC, dI)) (ci := 3) (v := .ref sF) (C := R_R) (T := T_R) (N := 21) hx hb hts iT_R hown hK hP 0 rfl rfl 10 (by decide) (hts _ wd_216) (fun _ h9 => h9) rfl d_R_efficiency_140 ?_
                    refine lv_iload hx hb d_R_efficiency_143 (lv_at hl 5 rfl) ?_
                    refine lv_aload_n hx hb d_R_efficiency_145 rfl (lv_at hl 0 rfl) ?_
                    refine va_get (D := (dC, dI)) (ci := 3) (v := .ref sF) (C := R_R) (T := T_R) (N := 21) hx hb hts iT_R hown hK hP 0 rfl rfl 10 (by decide) (hts _ wd_216) (fun _ h9 => h9) rfl d_R_efficiency_146 ?_
                    refine lv_iload hx hb d_R_efficiency_149 (lv_at hl 5 rfl) ?_
                    refine lv_iconst (v := nI 1) hx hb d_R_efficiency_151 (by decide) ?_
                    refine lv_isub hx hb d_R_efficiency_152 ?_
                    refine k_toi (pk_sub (by omega)) ?_
                    refine k_lald (j := i - 1) hx hb hK hP 2 0 rfl rfl (by omega) (by decide) d_R_efficiency_153 ?_
                    refine k_last (j := i) hx hb hK hP hD hS 2 0 rfl rfl (by omega) (by decide) d_R_efficiency_154 (fun H locs hP hD hS => ?_)
                    have ef_154 : vp_updL (shf rf i nr) i ((shf rf i nr) (i - 1)) = shf rf (i - 1) nr := shf_step rf (by omega) hi
                    rw [ef_154] at hP hD
                    have hP : va_P (dC, dI) vwCl [(h, .inr (3, [.ref aK, .ref aF, .ref aS, .ref aZ, .int (nI n), .ref aL, .int (nI sc), .ref aH, .int (nI nc), .ref sA, .ref sF, .int (nI nr), .ref aP, .ref aC, .int (nI np), .int (zI mt), .ref mL, .ref mA, .long mb, .int (nI mc), .ref tr])), (sA, .inl (cJ, 20, .inr (.inl (shf ra (i - 1) nr)))), (sF, .inl (cJ, 20, .inr (.inl (shf rf (i - 1) nr))))] H := hP
                    have hD : va_D A [(h, .inr (3, [.ref aK, .ref aF, .ref aS, .ref aZ, .int (nI n), .ref aL, .int (nI sc), .ref aH, .int (nI nc), .ref sA, .ref sF, .int (nI nr), .ref aP, .ref aC, .int (nI np), .int (zI mt), .ref mL, .ref mA, .long mb, .int (nI mc), .ref tr])), (sA, .inl (cJ, 20, .inr (.inl (shf ra (i - 1) nr)))), (sF, .inl (cJ, 20, .inr (.inl (shf rf (i - 1) nr))))] := hD
                    refine lv_iinc (v := nI (i - 1)) (lv' := [(11, .int (nI (i - 1))), (0, .ref h), (1, .long w), (7, .long (wpF a b)), (9, .int (nI (rowF ra w nr))), (10, .int (zI false))]) hx hb d_R_efficiency_155 hl (k := 5) rfl (sb_m1 (by omega)) (by decide) rfl (fun ls hl => ?_)
                    refine lv_goto (tgt := 111) hx hb d_R_efficiency_158 (by decide) ?_
                    exact ih_111 (i - 1) (by omega) (by omega) (by omega) _ _ _ hP hD hS (lv_sub hl [1, 2, 3, 4, 5, 0] rfl)
              exact loop_111 (nr + 1) nr (by omega) (by omega) (by omega) _ _ _ hP hD hS (lv_sub hl [2, 3, 6, 7, 1, 0] rfl)
            · refine lv_iconst (v := nI 0) hx hb d_R_efficiency_103 (by decide) ?_
              have hno : ¬ (rowF ra w nr < nr ∧ ra (rowF ra w nr) = w) := (fun h => absurd h.1 (Nat.not_lt.mpr c_67))
              have fq_0 : bL (efR w a b) (putA ra nr w) ra = ra := (bL_t hE).trans (by unfold putA; rw [if_neg hno, if_pos (show 20 ≤ nr by omega)])
              have fq_1 : bL (efR w a b) (putF ra rf nr w (wpF a b)) rf = rf := (bL_t hE).trans (by unfold putF; rw [if_neg hno, if_pos (show 20 ≤ nr by omega)])
              have fq_2 : bN (efR w a b) (putN ra nr w) nr = nr := (bN_t hE).trans (by unfold putN; rw [if_neg hno, if_pos (show 20 ≤ nr by omega)])
              have hP : va_P (dC, dI) vwCl [(h, .inr (3, [.ref aK, .ref aF, .ref aS, .ref aZ, .int (nI n), .ref aL, .int (nI sc), .ref aH, .int (nI nc), .ref sA, .ref sF, .int (nI (bN (efR w a b) (putN ra nr w) nr)), .ref aP, .ref aC, .int (nI np), .int (zI mt), .ref mL, .ref mA, .long mb, .int (nI mc), .ref tr])), (sA, .inl (cJ, 20, .inr (.inl (bL (efR w a b) (putA ra nr w) ra)))), (sF, .inl (cJ, 20, .inr (.inl (bL (efR w a b) (putF ra rf nr w (wpF a b)) rf))))] H := by rw [fq_0, fq_1, fq_2]; exact hP
              have hD : va_D A [(h, .inr (3, [.ref aK, .ref aF, .ref aS, .ref aZ, .int (nI n), .ref aL, .int (nI sc), .ref aH, .int (nI nc), .ref sA, .ref sF, .int (nI (bN (efR w a b) (putN ra nr w) nr)), .ref aP, .ref aC, .int (nI np), .int (zI mt), .ref mL, .ref mA, .long mb, .int (nI mc), .ref tr])), (sA, .inl (cJ, 20, .inr (.inl (bL (efR w a b) (putA ra nr w) ra)))), (sF, .inl (cJ, 20, .inr (.inl (bL (efR w a b) (putF ra rf nr w (wpF a b)) rf))))] := by rw [fq_0, fq_1, fq_2]; exact hD
              exact k_zret (v := nI 0) hx hb hr hlocks rfl () (by rw [hE]; unfold putB; rw [if_neg hno, if_pos (show 20 ≤ nr by omega)]; rfl) hP hD hK hS [0, 1, 2] (by decide) rfl d_R_efficiency_104
          · refine lv_aload_n hx hb d_R_efficiency_70 rfl (lv_at hl 0 rfl) ?_
            refine va_get (D := (dC, dI)) (ci := 3) (v := .ref sA) (C := R_R) (T := T_R) (N := 21) hx hb hts iT_R hown hK hP 0 rfl rfl 9 (by decide) (hts _ wd_215) (fun _ h9 => h9) rfl d_R_efficiency_71 ?_
            refine lv_iload hx hb d_R_efficiency_74 (lv_at hl 5 rfl) ?_
            refine k_lald (j := rowF ra w nr) hx hb hK hP 1 0 rfl rfl (by omega) (by decide) d_R_efficiency_76 ?_
            refine lv_lload_n hx hb d_R_efficiency_77 rfl (lv_at hl 1 rfl) ?_
            refine k_jne (tgt := 86) hx hb d_R_efficiency_78 d_R_efficiency_79 (by decide) (fun c_78 => ?_) (fun c_78 => ?_)
            · refine lv_iconst (v := nI 0) hx hb d_R_efficiency_86 (by decide) ?_
              refine k_toi (y := zI false) (by decide) ?_
              refine lv_istore (lv' := [(10, .int (zI false)), (0, .ref h), (1, .long w), (3, .long a), (5, .long b), (7, .long (wpF a b)), (9, .int (nI (rowF ra w nr)))]) hx hb d_R_efficiency_87 hl (by decide) rfl (fun ls hl => ?_)
              refine lv_iload hx hb d_R_efficiency_89 (lv_at hl 0 rfl) ?_
              refine k_zne (tgt := 105) hx hb d_R_efficiency_91 (by decide) (fun h9 => absurd h9 (by decide)) (fun _ => ?_)
              refine lv_aload_n hx hb d_R_efficiency_94 rfl (lv_at hl 1 rfl) ?_
              refine va_get (D := (dC, dI)) (ci := 3) (v := .int (nI nr)) (C := R_R) (T := T_R) (N := 21) hx hb hts iT_R hown hK hP 0 rfl rfl 11 (by decide) (hts _ wd_247) (fun _ h9 => h9) rfl d_R_efficiency_95 ?_
              refine lv_bipush (v := nI 20) hx hb d_R_efficiency_98 (by decide) ?_
              refine k_nne (tgt := 105) hx hb d_R_efficiency_100 (by decide) (by omega) (by omega) (fun c_100 => ?_) (fun c_100 => ?_)
              · refine lv_aload_n hx hb d_R_efficiency_105 rfl (lv_at hl 1 rfl) ?_
                refine va_get (D := (dC, dI)) (ci := 3) (v := .int (nI nr)) (C := R_R) (T := T_R) (N := 21) hx hb hts iT_R hown hK hP 0 rfl rfl 11 (by decide) (hts _ wd_247) (fun _ h9 => h9) rfl d_R_efficiency_106 ?_
                refine lv_istore (lv' := [(11, .int (nI nr)), (10, .int (zI false)), (0, .ref h), (1, .long w), (3, .long a), (5, .long b), (7, .long (wpF a b)), (9, .int (nI (rowF ra w nr)))]) hx hb d_R_efficiency_109 hl (by decide) rfl (fun ls hl => ?_)
                have hP : va_P (dC, dI) vwCl [(h, .inr (3, [.ref aK, .ref aF, .ref aS, .ref aZ, .int (nI n), .ref aL, .int (nI sc), .ref aH, .int (nI nc), .ref sA, .ref sF, .int (nI nr), .ref aP, .ref aC, .int (nI np), .int (zI mt), .ref mL, .ref mA, .long mb, .int (nI mc), .ref tr])), (sA, .inl (cJ, 20, .inr (.inl (shf ra nr nr)))), (sF, .inl (cJ, 20, .inr (.inl rf)))] H := by rw [shf_n ra nr]; exact hP
                have hD : va_D A [(h, .inr (3, [.ref aK, .ref aF, .ref aS, .ref aZ, .int (nI n), .ref aL, .int (nI sc), .ref aH, .int (nI nc), .ref sA, .ref sF, .int (nI nr), .ref aP, .ref aC, .int (nI np), .int (zI mt), .ref mL, .ref mA, .long mb, .int (nI mc), .ref tr])), (sA, .inl (cJ, 20, .inr (.inl (shf ra nr nr)))), (sF, .inl (cJ, 20, .inr (.inl rf)))] := by rw [shf_n ra nr]; exact hD
                have hP : va_P (dC, dI) vwCl [(h, .inr (3, [.ref aK, .ref aF, .ref aS, .ref aZ, .int (nI n), .ref aL, .int (nI sc), .ref aH, .int (nI nc), .ref sA, .ref sF, .int (nI nr), .ref aP, .ref aC, .int (nI np), .int (zI mt), .ref mL, .ref mA, .long mb, .int (nI mc), .ref tr])), (sA, .inl (cJ, 20, .inr (.inl (shf ra nr nr)))), (sF, .inl (cJ, 20, .inr (.inl (shf rf nr nr))))] H := by rw [shf_n rf nr]; exact hP
                have hD : va_D A [(h, .inr (3, [.ref aK, .ref aF, .ref aS, .ref aZ, .int (nI n), .ref aL, .int (nI sc), .ref aH, .int (nI nc), .ref sA, .ref sF, .int (nI nr), .ref aP, .ref aC, .int (nI np), .int (zI mt), .ref mL, .ref mA, .long mb, .int (nI mc), .ref tr])), (sA, .inl (cJ, 20, .inr (.inl (shf ra nr nr)))), (sF, .inl (cJ, 20, .inr (.inl (shf rf nr nr))))] := by rw [shf_n rf nr]; exact hD
                have loop_111 : ∀ (fu_111 : Nat) (i : Nat) (hi : i ≤ nr) (hir : rowF ra w nr ≤ i) (hfu_111 : i + 1 ≤ rowF ra w nr + fu_111) (H : Heap) (locs : List Loc) (ls : Array Slot), va_P (dC, dI) vwCl [(h, .inr (3, [.ref aK, .ref aF, .ref aS, .ref aZ, .int (nI n), .ref aL, .int (nI sc), .ref aH, .int (nI nc), .ref sA, .ref sF, .int (nI nr), .ref aP, .ref aC, .int (nI np), .int (zI mt), .ref mL, .ref mA, .long mb, .int (nI mc), .ref tr])), (sA, .inl (cJ, 20, .inr (.inl (shf ra i nr)))), (sF, .inl (cJ, 20, .inr (.inl (shf rf i nr))))] H → va_D A [(h, .inr (3, [.ref aK, .ref aF, .ref aS, .ref aZ, .int (nI n), .ref aL, .int (nI sc), .ref aH, .int (nI nc), .ref sA, .ref sF, .int (nI nr), .ref aP, .ref aC, .int (nI np), .int (zI mt), .ref mL, .ref mA, .long mb, .int (nI mc), .ref tr])), (sA, .inl (cJ, 20, .inr (.inl (shf ra i nr)))), (sF, .inl (cJ, 20, .inr (.inl (shf rf i nr))))] → va_S A s.heap H locs → lv_has ls 12 [(0, .ref h), (1, .long w), (7, .long (wpF a b)), (9, .int (nI (rowF ra w nr))), (10, .int (zI false)), (11, .int (nI i))] → W p l e { frames := 1, cells := 0, slots := 0, locals := 24 } s m [.ref h, .long w, .long a, .long b].toArray below meth c H locs 0 0 (MQ below (q_R_efficiency dC dI cJ cI cZ h aK aF aS aZ aL aH sA sF aP aC mL mA tr n sc nc nr np mt mb mc ra rf w a b A) [.ref h, .long w, .long a, .long b].toArray s 0 0 A) (F0 m 111 ls []) := by
                  intro fu_111
                  induction fu_111 with
                  | zero =>
                    intro i hi hir hfu_111 H locs ls hP hD hS hl
                    exact absurd hfu_111 (by omega)
                  | succ fu_111 ih_111 =>
                    intro i hi hir hfu_111 H locs ls hP hD hS hl
                    refine lv_iload hx hb d_R_efficiency_111 (lv_at hl 5 rfl) ?_
                    refine lv_iload hx hb d_R_efficiency_113 (lv_at hl 3 rfl) ?_
                    refine k_nle (tgt := 161) hx hb d_R_efficiency_115 (by decide) (by omega) (by omega) (fun c_115 => ?_) (fun c_115 => ?_)
                    · obtain rfl : i = rowF ra w nr := by omega
                      refine lv_aload_n hx hb d_R_efficiency_161 rfl (lv_at hl 0 rfl) ?_
                      refine lv_dup hx hb d_R_efficiency_162 rfl ?_
                      refine va_get (D := (dC, dI)) (ci := 3) (v := .int (nI nr)) (C := R_R) (T := T_R) (N := 21) hx hb hts iT_R hown hK hP 0 rfl rfl 11 (by decide) (hts _ wd_247) (fun _ h9 => h9) rfl d_R_efficiency_163 ?_
                      refine lv_iload hx hb d_R_efficiency_166 (lv_at hl 4 rfl) ?_
                      refine k_zeq (tgt := 175) hx hb d_R_efficiency_168 (by decide) (fun _ => ?_) (fun h9 => absurd h9 (by decide))
                      refine lv_iconst (v := nI 1) hx hb d_R_efficiency_175 (by decide) ?_
                      refine lv_iadd hx hb d_R_efficiency_176 ?_
                      refine k_toi (nI_add nr 1) ?_
                      refine va_put (D := (dC, dI)) (ci := 3) (v := .int (nI (nr + 1))) (ty := .int) (C := R_R) (T := T_R) (N := 21) hx hb hts iT_R t_R t_R_ok n_R hown hK hP hD hS 0 rfl rfl 11 (by decide) (hts _ wd_247) (fun _ h9 => h9) rfl (by decide +kernel) rfl rfl (Nat.le_of_ble_eq_true rfl) d_R_efficiency_177 (fun H locs hP hD hS => ?_)
                      have hP : va_P (dC, dI) vwCl [(h, .inr (3, [.ref aK, .ref aF, .ref aS, .ref aZ, .int (nI n), .ref aL, .int (nI sc), .ref aH, .int (nI nc), .ref sA, .ref sF, .int (nI (nr + 1)), .ref aP, .ref aC, .int (nI np), .int (zI mt), .ref mL, .ref mA, .long mb, .int (nI mc), .ref tr])), (sA, .inl (cJ, 20, .inr (.inl (shf ra (rowF ra w nr) nr)))), (sF, .inl (cJ, 20, .inr (.inl (shf rf (rowF ra w nr) nr))))] H := hP
                      have hD : va_D A [(h, .inr (3, [.ref aK, .ref aF, .ref aS, .ref aZ, .int (nI n), .ref aL, .int (nI sc), .ref aH, .int (nI nc), .ref sA, .ref sF, .int (nI (nr + 1)), .ref aP, .ref aC, .int (nI np), .int (zI mt), .ref mL, .ref mA, .long mb, .int (nI mc), .ref tr])), (sA, .inl (cJ, 20, .inr (.inl (shf ra (rowF ra w nr) nr)))), (sF, .inl (cJ, 20, .inr (.inl (shf rf (rowF ra w nr) nr))))] := hD
                      refine lv_aload_n hx hb d_R_efficiency_180 rfl (lv_at hl 0 rfl) ?_
                      refine va_get (D := (dC, dI)) (ci := 3) (v := .ref sA) (C := R_R) (T := T_R) (N := 21) hx hb hts iT_R hown hK hP 0 rfl rfl 9 (by decide) (hts _ wd_215) (fun _ h9 => h9) rfl d_R_efficiency_181 ?_
                      refine lv_iload hx hb d_R_efficiency_184 (lv_at hl 3 rfl) ?_
                      refine lv_lload_n hx hb d_R_efficiency_186 rfl (lv_at hl 1 rfl) ?_
                      refine k_last (j := rowF ra w nr) hx hb hK hP hD hS 1 0 rfl rfl (by omega) (by decide) d_R_efficiency_187 (fun H locs hP hD hS => ?_)
                      have hP : va_P (dC, dI) vwCl [(h, .inr (3, [.ref aK, .ref aF, .ref aS, .ref aZ, .int (nI n), .ref aL, .int (nI sc), .ref aH, .int (nI nc), .ref sA, .ref sF, .int (nI (nr + 1)), .ref aP, .ref aC, .int (nI np), .int (zI mt), .ref mL, .ref mA, .long mb, .int (nI mc), .ref tr])), (sA, .inl (cJ, 20, .inr (.inl (vp_updL (shf ra (rowF ra w nr) nr) (rowF ra w nr) w)))), (sF, .inl (cJ, 20, .inr (.inl (shf rf (rowF ra w nr) nr))))] H := hP
                      have hD : va_D A [(h, .inr (3, [.ref aK, .ref aF, .ref aS, .ref aZ, .int (nI n), .ref aL, .int (nI sc), .ref aH, .int (nI nc), .ref sA, .ref sF, .int (nI (nr + 1)), .ref aP, .ref aC, .int (nI np), .int (zI mt), .ref mL, .ref mA, .long mb, .int (nI mc), .ref tr])), (sA, .inl (cJ, 20, .inr (.inl (vp_updL (shf ra (rowF ra w nr) nr) (rowF ra w nr) w)))), (sF, .inl (cJ, 20, .inr (.inl (shf rf (rowF ra w nr) nr))))] := hD
                      refine lv_aload_n hx hb d_R_efficiency_188 rfl (lv_at hl 0 rfl) ?_
                      refine va_get (D := (dC, dI)) (ci := 3) (v := .ref sF) (C := R_R) (T := T_R) (N := 21) hx hb hts iT_R hown hK hP 0 rfl rfl 10 (by decide) (hts _ wd_216) (fun _ h9 => h9) rfl d_R_efficiency_189 ?_
                      refine lv_iload hx hb d_R_efficiency_192 (lv_at hl 3 rfl) ?_
                      refine lv_lload hx hb d_R_efficiency_194 (lv_at hl 2 rfl) ?_
                      refine k_last (j := rowF ra w nr) hx hb hK hP hD hS 2 0 rfl rfl (by omega) (by decide) d_R_efficiency_196 (fun H locs hP hD hS => ?_)
                      have hP : va_P (dC, dI) vwCl [(h, .inr (3, [.ref aK, .ref aF, .ref aS, .ref aZ, .int (nI n), .ref aL, .int (nI sc), .ref aH, .int (nI nc), .ref sA, .ref sF, .int (nI (nr + 1)), .ref aP, .ref aC, .int (nI np), .int (zI mt), .ref mL, .ref mA, .long mb, .int (nI mc), .ref tr])), (sA, .inl (cJ, 20, .inr (.inl (vp_updL (shf ra (rowF ra w nr) nr) (rowF ra w nr) w)))), (sF, .inl (cJ, 20, .inr (.inl (vp_updL (shf rf (rowF ra w nr) nr) (rowF ra w nr) (wpF a b)))))] H := hP
                      have hD : va_D A [(h, .inr (3, [.ref aK, .ref aF, .ref aS, .ref aZ, .int (nI n), .ref aL, .int (nI sc), .ref aH, .int (nI nc), .ref sA, .ref sF, .int (nI (nr + 1)), .ref aP, .ref aC, .int (nI np), .int (zI mt), .ref mL, .ref mA, .long mb, .int (nI mc), .ref tr])), (sA, .inl (cJ, 20, .inr (.inl (vp_updL (shf ra (rowF ra w nr) nr) (rowF ra w nr) w)))), (sF, .inl (cJ, 20, .inr (.inl (vp_updL (shf rf (rowF ra w nr) nr) (rowF ra w nr) (wpF a b)))))] := hD
                      refine lv_iconst (v := nI 1) hx hb d_R_efficiency_197 (by decide) ?_
                      have hno : ¬ (rowF ra w nr < nr ∧ ra (rowF ra w nr) = w) := (fun h => c_78 h.2)
                      have fq_0 : bL (efR w a b) (putA ra nr w) ra = vp_updL (shf ra (rowF ra w nr) nr) (rowF ra w nr) w := (bL_t hE).trans (by unfold putA; rw [if_neg hno, if_neg (show ¬ 20 ≤ nr by omega)])
                      have fq_1 : bL (efR w a b) (putF ra rf nr w (wpF a b)) rf = vp_updL (shf rf (rowF ra w nr) nr) (rowF ra w nr) (wpF a b) := (bL_t hE).trans (by unfold putF; rw [if_neg hno, if_neg (show ¬ 20 ≤ nr by omega)])
                      have fq_2 : bN (efR w a b) (putN ra nr w) nr = nr + 1 := (bN_t hE).trans (by unfold putN; rw [if_neg hno, if_neg (show ¬ 20 ≤ nr by omega)])
                      have hP : va_P (dC, dI) vwCl [(h, .inr (3, [.ref aK, .ref aF, .ref aS, .ref aZ, .int (nI n), .ref aL, .int (nI sc), .ref aH, .int (nI nc), .ref sA, .ref sF, .int (nI (bN (efR w a b) (putN ra nr w) nr)), .ref aP, .ref aC, .int (nI np), .int (zI mt), .ref mL, .ref mA, .long mb, .int (nI mc), .ref tr])), (sA, .inl (cJ, 20, .inr (.inl (bL (efR w a b) (putA ra nr w) ra)))), (sF, .inl (cJ, 20, .inr (.inl (bL (efR w a b) (putF ra rf nr w (wpF a b)) rf))))] H := by rw [fq_0, fq_1, fq_2]; exact hP
                      have hD : va_D A [(h, .inr (3, [.ref aK, .ref aF, .ref aS, .ref aZ, .int (nI n), .ref aL, .int (nI sc), .ref aH, .int (nI nc), .ref sA, .ref sF, .int (nI (bN (efR w a b) (putN ra nr w) nr)), .ref aP, .ref aC, .int (nI np), .int (zI mt), .ref mL, .ref mA, .long mb, .int (nI mc), .ref tr])), (sA, .inl (cJ, 20, .inr (.inl (bL (efR w a b) (putA ra nr w) ra)))), (sF, .inl (cJ, 20, .inr (.inl (bL (efR w a b) (putF ra rf nr w (wpF a b)) rf))))] := by rw [fq_0, fq_1, fq_2]; exact hD
                      exact k_zret (v := nI 1) hx hb hr hlocks rfl () (by rw [hE]; unfold putB; rw [if_neg hno, if_neg (show ¬ 20 ≤ nr by omega)]; rfl) hP hD hK hS [0, 1, 2] (by decide) rfl d_R_efficiency_198
                    · refine lv_iload hx hb d_R_efficiency_118 (lv_at hl 4 rfl) ?_
                      refine k_zne (tgt := 161) hx hb d_R_efficiency_120 (by decide) (fun h9 => absurd h9 (by decide)) (fun _ => ?_)
                      refine lv_aload_n hx hb d_R_efficiency_123 rfl (lv_at hl 0 rfl) ?_
                      refine va_get (D := (dC, dI)) (ci := 3) (v := .ref sA) (C := R_R) (T := T_R) (N := 21) hx hb hts iT_R hown hK hP 0 rfl rfl 9 (by decide) (hts _ wd_215) (fun _ h9 => h9) rfl d_R_efficiency_124 ?_
                      refine lv_iload hx hb d_R_efficiency_127 (lv_at hl 5 rfl) ?_
                      refine lv_aload_n hx hb d_R_efficiency_129 rfl (lv_at hl 0 rfl) ?_
                      refine va_get (D := (dC, dI)) (ci := 3) (v := .ref sA) (C := R_R) (T := T_R) (N := 21) hx hb hts iT_R hown hK hP 0 rfl rfl 9 (by decide) (hts _ wd_215) (fun _ h9 => h9) rfl d_R_efficiency_130 ?_
                      refine lv_iload hx hb d_R_efficiency_133 (lv_at hl 5 rfl) ?_
                      refine lv_iconst (v := nI 1) hx hb d_R_efficiency_135 (by decide) ?_
                      refine lv_isub hx hb d_R_efficiency_136 ?_
                      refine k_toi (pk_sub (by omega)) ?_
                      refine k_lald (j := i - 1) hx hb hK hP 1 0 rfl rfl (by omega) (by decide) d_R_efficiency_137 ?_
                      refine k_last (j := i) hx hb hK hP hD hS 1 0 rfl rfl (by omega) (by decide) d_R_efficiency_138 (fun H locs hP hD hS => ?_)
                      have ef_138 : vp_updL (shf ra i nr) i ((shf ra i nr) (i - 1)) = shf ra (i - 1) nr := shf_step ra (by omega) hi
                      rw [ef_138] at hP hD
                      have hP : va_P (dC, dI) vwCl [(h, .inr (3, [.ref aK, .ref aF, .ref aS, .ref aZ, .int (nI n), .ref aL, .int (nI sc), .ref aH, .int (nI nc), .ref sA, .ref sF, .int (nI nr), .ref aP, .ref aC, .int (nI np), .int (zI mt), .ref mL, .ref mA, .long mb, .int (nI mc), .ref tr])), (sA, .inl (cJ, 20, .inr (.inl (shf ra (i - 1) nr)))), (sF, .inl (cJ, 20, .inr (.inl (shf rf i nr))))] H := hP
                      have hD : va_D A [(h, .inr (3, [.ref aK, .ref aF, .ref aS, .ref aZ, .int (nI n), .ref aL, .int (nI sc), .ref aH, .int (nI nc), .ref sA, .ref sF, .int (nI nr), .ref aP, .ref aC, .int (nI np), .int (zI mt), .ref mL, .ref mA, .long mb, .int (nI mc), .ref tr])), (sA, .inl (cJ, 20, .inr (.inl (shf ra (i - 1) nr)))), (sF, .inl (cJ, 20, .inr (.inl (shf rf i nr))))] := hD
                      refine lv_aload_n hx hb d_R_efficiency_139 rfl (lv_at hl 0 rfl) ?_
                      refine va_get (D := (dC, dI)) (ci := 3) (v := .ref sF) (C := R_R) (T := T_R) (N := 21) hx hb hts iT_R hown hK hP 0 rfl rfl 10 (by decide) (hts _ wd_216) (fun _ h9 => h9) rfl d_R_efficiency_140 ?_
                      refine lv_iload hx hb d_R_efficiency_143 (lv_at hl 5 rfl) ?_
                      refine lv_aload_n hx hb d_R_efficiency_145 rfl (lv_at hl 0 rfl) ?_
                      refine va_get (D := (dC, dI)) (ci := 3) (v := .ref sF) (C := R_R) (T := T_R) (N := 21) hx hb hts iT_R hown hK hP 0 rfl rfl 10 (by decide) (hts _ wd_216) (fun _ h9 => h9) rfl d_R_efficiency_146 ?_
                      refine lv_iload hx hb d_R_efficiency_149 (lv_at hl 5 rfl) ?_
                      refine lv_iconst (v := nI 1) hx hb d_R_efficiency_151 (by decide) ?_
                      refine lv_isub hx hb d_R_efficiency_152 ?_
                      refine k_toi (pk_sub (by omega)) ?_
                      refine k_lald (j := i - 1) hx hb hK hP 2 0 rfl rfl (by omega) (by decide) d_R_efficiency_153 ?_
                      refine k_last (j := i) hx hb hK hP hD hS 2 0 rfl rfl (by omega) (by decide) d_R_efficiency_154 (fun H locs hP hD hS => ?_)
                      have ef_154 : vp_updL (shf rf i nr) i ((shf rf i nr) (i - 1)) = shf rf (i - 1) nr := shf_step rf (by omega) hi
                      rw [ef_154] at hP hD
                      have hP : va_P (dC, dI) vwCl [(h, .inr (3, [.ref aK, .ref aF, .ref aS, .ref aZ, .int (nI n), .ref aL, .int (nI sc), .ref aH, .int (nI nc), .ref sA, .ref sF, .int (nI nr), .ref aP, .ref aC, .int (nI np), .int (zI mt), .ref mL, .ref mA, .long mb, .int (nI mc), .ref tr])), (sA, .inl (cJ, 20, .inr (.inl (shf ra (i - 1) nr)))), (sF, .inl (cJ, 20, .inr (.inl (shf rf (i - 1) nr))))] H := hP
                      have hD : va_D A [(h, .inr (3, [.ref aK, .ref aF, .ref aS, .ref aZ, .int (nI n), .ref aL, .int (nI sc), .ref aH, .int (nI nc), .ref sA, .ref sF, .int (nI nr), .ref aP, .ref aC, .int (nI np), .int (zI mt), .ref mL, .ref mA, .long mb, .int (nI mc), .ref tr])), (sA, .inl (cJ, 20, .inr (.inl (shf ra (i - 1) nr)))), (sF, .inl (cJ, 20, .inr (.inl (shf rf (i - 1) nr))))] := hD
                      refine lv_iinc (v := nI (i - 1)) (lv' := [(11, .int (nI (i - 1))), (0, .ref h), (1, .long w), (7, .long (wpF a b)), (9, .int (nI (rowF ra w nr))), (10, .int (zI false))]) hx hb d_R_efficiency_155 hl (k := 5) rfl (sb_m1 (by omega)) (by decide) rfl (fun ls hl => ?_)
                      refine lv_goto (tgt := 111) hx hb d_R_efficiency_158 (by decide) ?_
                      exact ih_111 (i - 1) (by omega) (by omega) (by omega) _ _ _ hP hD hS (lv_sub hl [1, 2, 3, 4, 5, 0] rfl)
                exact loop_111 (nr + 1) nr (by omega) (by omega) (by omega) _ _ _ hP hD hS (lv_sub hl [2, 3, 6, 7, 1, 0] rfl)
              · refine lv_iconst (v := nI 0) hx hb d_R_efficiency_103 (by decide) ?_
                have hno : ¬ (rowF ra w nr < nr ∧ ra (rowF ra w nr) = w) := (fun h => c_78 h.2)
                have fq_0 : bL (efR w a b) (putA ra nr w) ra = ra := (bL_t hE).trans (by unfold putA; rw [if_neg hno, if_pos (show 20 ≤ nr by omega)])
                have fq_1 : bL (efR w a b) (putF ra rf nr w (wpF a b)) rf = rf := (bL_t hE).trans (by unfold putF; rw [if_neg hno, if_pos (show 20 ≤ nr by omega)])
                have fq_2 : bN (efR w a b) (putN ra nr w) nr = nr := (bN_t hE).trans (by unfold putN; rw [if_neg hno, if_pos (show 20 ≤ nr by omega)])
                have hP : va_P (dC, dI) vwCl [(h, .inr (3, [.ref aK, .ref aF, .ref aS, .ref aZ, .int (nI n), .ref aL, .int (nI sc), .ref aH, .int (nI nc), .ref sA, .ref sF, .int (nI (bN (efR w a b) (putN ra nr w) nr)), .ref aP, .ref aC, .int (nI np), .int (zI mt), .ref mL, .ref mA, .long mb, .int (nI mc), .ref tr])), (sA, .inl (cJ, 20, .inr (.inl (bL (efR w a b) (putA ra nr w) ra)))), (sF, .inl (cJ, 20, .inr (.inl (bL (efR w a b) (putF ra rf nr w (wpF a b)) rf))))] H := by rw [fq_0, fq_1, fq_2]; exact hP
                have hD : va_D A [(h, .inr (3, [.ref aK, .ref aF, .ref aS, .ref aZ, .int (nI n), .ref aL, .int (nI sc), .ref aH, .int (nI nc), .ref sA, .ref sF, .int (nI (bN (efR w a b) (putN ra nr w) nr)), .ref aP, .ref aC, .int (nI np), .int (zI mt), .ref mL, .ref mA, .long mb, .int (nI mc), .ref tr])), (sA, .inl (cJ, 20, .inr (.inl (bL (efR w a b) (putA ra nr w) ra)))), (sF, .inl (cJ, 20, .inr (.inl (bL (efR w a b) (putF ra rf nr w (wpF a b)) rf))))] := by rw [fq_0, fq_1, fq_2]; exact hD
                exact k_zret (v := nI 0) hx hb hr hlocks rfl () (by rw [hE]; unfold putB; rw [if_neg hno, if_pos (show 20 ≤ nr by omega)]; rfl) hP hD hK hS [0, 1, 2] (by decide) rfl d_R_efficiency_104
            · refine lv_iconst (v := nI 1) hx hb d_R_efficiency_82 (by decide) ?_
              refine k_toi (y := zI true) (by decide) ?_
              refine lv_goto (tgt := 87) hx hb d_R_efficiency_83 (by decide) ?_
              refine lv_istore (lv' := [(10, .int (zI true)), (0, .ref h), (1, .long w), (3, .long a), (5, .long b), (7, .long (wpF a b)), (9, .int (nI (rowF ra w nr)))]) hx hb d_R_efficiency_87 hl (by decide) rfl (fun ls hl => ?_)
              refine lv_iload hx hb d_R_efficiency_89 (lv_at hl 0 rfl) ?_
              refine k_zne (tgt := 105) hx hb d_R_efficiency_91 (by decide) (fun _ => ?_) (fun h9 => absurd h9 (by decide))
              refine lv_aload_n hx hb d_R_efficiency_105 rfl (lv_at hl 1 rfl) ?_
              refine va_get (D := (dC, dI)) (ci := 3) (v := .int (nI nr)) (C := R_R) (T := T_R) (N := 21) hx hb hts iT_R hown hK hP 0 rfl rfl 11 (by decide) (hts _ wd_247) (fun _ h9 => h9) rfl d_R_efficiency_106 ?_
              refine lv_istore (lv' := [(11, .int (nI nr)), (10, .int (zI true)), (0, .ref h), (1, .long w), (3, .long a), (5, .long b), (7, .long (wpF a b)), (9, .int (nI (rowF ra w nr)))]) hx hb d_R_efficiency_109 hl (by decide) rfl (fun ls hl => ?_)
              refine lv_iload hx hb d_R_efficiency_111 (lv_at hl 0 rfl) ?_
              refine lv_iload hx hb d_R_efficiency_113 (lv_at hl 7 rfl) ?_
              refine k_nle (tgt := 161) hx hb d_R_efficiency_115 (by decide) (by omega) (by omega) (fun c_115 => ?_) (fun c_115 => ?_)
              · refine lv_aload_n hx hb d_R_efficiency_161 rfl (lv_at hl 2 rfl) ?_
                refine lv_dup hx hb d_R_efficiency_162 rfl ?_
                refine va_get (D := (dC, dI)) (ci := 3) (v := .int (nI nr)) (C := R_R) (T := T_R) (N := 21) hx hb hts iT_R hown hK hP 0 rfl rfl 11 (by decide) (hts _ wd_247) (fun _ h9 => h9) rfl d_R_efficiency_163 ?_
                refine lv_iload hx hb d_R_efficiency_166 (lv_at hl 1 rfl) ?_
                refine k_zeq (tgt := 175) hx hb d_R_efficiency_168 (by decide) (fun h9 => absurd h9 (by decide)) (fun _ => ?_)
                refine lv_iconst (v := nI 0) hx hb d_R_efficiency_171 (by decide) ?_
                refine lv_goto (tgt := 176) hx hb d_R_efficiency_172 (by decide) ?_
                refine lv_iadd hx hb d_R_efficiency_176 ?_
                refine k_toi (nI_add nr 0) ?_
                refine va_put (D := (dC, dI)) (ci := 3) (v := .int (nI (nr + 0))) (ty := .int) (C := R_R) (T := T_R) (N := 21) hx hb hts iT_R t_R t_R_ok n_R hown hK hP hD hS 0 rfl rfl 11 (by decide) (hts _ wd_247) (fun _ h9 => h9) rfl (by decide +kernel) rfl rfl (Nat.le_of_ble_eq_true rfl) d_R_efficiency_177 (fun H locs hP hD hS => ?_)
                have hP : va_P (dC, dI) vwCl [(h, .inr (3, [.ref aK, .ref aF, .ref aS, .ref aZ, .int (nI n), .ref aL, .int (nI sc), .ref aH, .int (nI nc), .ref sA, .ref sF, .int (nI (nr + 0)), .ref aP, .ref aC, .int (nI np), .int (zI mt), .ref mL, .ref mA, .long mb, .int (nI mc), .ref tr])), (sA, .inl (cJ, 20, .inr (.inl ra))), (sF, .inl (cJ, 20, .inr (.inl rf)))] H := hP
                have hD : va_D A [(h, .inr (3, [.ref aK, .ref aF, .ref aS, .ref aZ, .int (nI n), .ref aL, .int (nI sc), .ref aH, .int (nI nc), .ref sA, .ref sF, .int (nI (nr + 0)), .ref aP, .ref aC, .int (nI np), .int (zI mt), .ref mL, .ref mA, .long mb, .int (nI mc), .ref tr])), (sA, .inl (cJ, 20, .inr (.inl ra))), (sF, .inl (cJ, 20, .inr (.inl rf)))] := hD
                refine lv_aload_n hx hb d_R_efficiency_180 rfl (lv_at hl 2 rfl) ?_
                refine va_get (D := (dC, dI)) (ci := 3) (v := .ref sA) (C := R_R) (T := T_R) (N := 21) hx hb hts iT_R hown hK hP 0 rfl rfl 9 (by decide) (hts _ wd_215) (fun _ h9 => h9) rfl d_R_efficiency_181 ?_
                refine lv_iload hx hb d_R_efficiency_184 (lv_at hl 7 rfl) ?_
                refine lv_lload_n hx hb d_R_efficiency_186 rfl (lv_at hl 3 rfl) ?_
                refine k_last (j := rowF ra w nr) hx hb hK hP hD hS 1 0 rfl rfl (by omega) (by decide) d_R_efficiency_187 (fun H locs hP hD hS => ?_)
                have hP : va_P (dC, dI) vwCl [(h, .inr (3, [.ref aK, .ref aF, .ref aS, .ref aZ, .int (nI n), .ref aL, .int (nI sc), .ref aH, .int (nI nc), .ref sA, .ref sF, .int (nI (nr + 0)), .ref aP, .ref aC, .int (nI np), .int (zI mt), .ref mL, .ref mA, .long mb, .int (nI mc), .ref tr])), (sA, .inl (cJ, 20, .inr (.inl (vp_updL ra (rowF ra w nr) w)))), (sF, .inl (cJ, 20, .inr (.inl rf)))] H := hP
                have hD : va_D A [(h, .inr (3, [.ref aK, .ref aF, .ref aS, .ref aZ, .int (nI n), .ref aL, .int (nI sc), .ref aH, .int (nI nc), .ref sA, .ref sF, .int (nI (nr + 0)), .ref aP, .ref aC, .int (nI np), .int (zI mt), .ref mL, .ref mA, .long mb, .int (nI mc), .ref tr])), (sA, .inl (cJ, 20, .inr (.inl (vp_updL ra (rowF ra w nr) w)))), (sF, .inl (cJ, 20, .inr (.inl rf)))] := hD
                refine lv_aload_n hx hb d_R_efficiency_188 rfl (lv_at hl 2 rfl) ?_
                refine va_get (D := (dC, dI)) (ci := 3) (v := .ref sF) (C := R_R) (T := T_R) (N := 21) hx hb hts iT_R hown hK hP 0 rfl rfl 10 (by decide) (hts _ wd_216) (fun _ h9 => h9) rfl d_R_efficiency_189 ?_
                refine lv_iload hx hb d_R_efficiency_192 (lv_at hl 7 rfl) ?_
                refine lv_lload hx hb d_R_efficiency_194 (lv_at hl 6 rfl) ?_
                refine k_last (j := rowF ra w nr) hx hb hK hP hD hS 2 0 rfl rfl (by omega) (by decide) d_R_efficiency_196 (fun H locs hP hD hS => ?_)
                have hP : va_P (dC, dI) vwCl [(h, .inr (3, [.ref aK, .ref aF, .ref aS, .ref aZ, .int (nI n), .ref aL, .int (nI sc), .ref aH, .int (nI nc), .ref sA, .ref sF, .int (nI (nr + 0)), .ref aP, .ref aC, .int (nI np), .int (zI mt), .ref mL, .ref mA, .long mb, .int (nI mc), .ref tr])), (sA, .inl (cJ, 20, .inr (.inl (vp_updL ra (rowF ra w nr) w)))), (sF, .inl (cJ, 20, .inr (.inl (vp_updL rf (rowF ra w nr) (wpF a b)))))] H := hP
                have hD : va_D A [(h, .inr (3, [.ref aK, .ref aF, .ref aS, .ref aZ, .int (nI n), .ref aL, .int (nI sc), .ref aH, .int (nI nc), .ref sA, .ref sF, .int (nI (nr + 0)), .ref aP, .ref aC, .int (nI np), .int (zI mt), .ref mL, .ref mA, .long mb, .int (nI mc), .ref tr])), (sA, .inl (cJ, 20, .inr (.inl (vp_updL ra (rowF ra w nr) w)))), (sF, .inl (cJ, 20, .inr (.inl (vp_updL rf (rowF ra w nr) (wpF a b)))))] := hD
                refine lv_iconst (v := nI 1) hx hb d_R_efficiency_197 (by decide) ?_
                have fq_0 : bL (efR w a b) (putA ra nr w) ra = vp_updL ra (rowF ra w nr) w := (bL_t hE).trans ((if_pos ⟨c_67, c_78⟩).trans (updL_same c_78).symm)
                have fq_1 : bL (efR w a b) (putF ra rf nr w (wpF a b)) rf = vp_updL rf (rowF ra w nr) (wpF a b) := (bL_t hE).trans (if_pos ⟨c_67, c_78⟩)
                have fq_2 : bN (efR w a b) (putN ra nr w) nr = nr + 0 := (bN_t hE).trans (if_pos ⟨c_67, c_78⟩)
                have hP : va_P (dC, dI) vwCl [(h, .inr (3, [.ref aK, .ref aF, .ref aS, .ref aZ, .int (nI n), .ref aL, .int (nI sc), .ref aH, .int (nI nc), .ref sA, .ref sF, .int (nI (bN (efR w a b) (putN ra nr w) nr)), .ref aP, .ref aC, .int (nI np), .int (zI mt), .ref mL, .ref mA, .long mb, .int (nI mc), .ref tr])), (sA, .inl (cJ, 20, .inr (.inl (bL (efR w a b) (putA ra nr w) ra)))), (sF, .inl (cJ, 20, .inr (.inl (bL (efR w a b) (putF ra rf nr w (wpF a b)) rf))))] H := by rw [fq_0, fq_1, fq_2]; exact hP
                have hD : va_D A [(h, .inr (3, [.ref aK, .ref aF, .ref aS, .ref aZ, .int (nI n), .ref aL, .int (nI sc), .ref aH, .int (nI nc), .ref sA, .ref sF, .int (nI (bN (efR w a b) (putN ra nr w) nr)), .ref aP, .ref aC, .int (nI np), .int (zI mt), .ref mL, .ref mA, .long mb, .int (nI mc), .ref tr])), (sA, .inl (cJ, 20, .inr (.inl (bL (efR w a b) (putA ra nr w) ra)))), (sF, .inl (cJ, 20, .inr (.inl (bL (efR w a b) (putF ra rf nr w (wpF a b)) rf))))] := by rw [fq_0, fq_1, fq_2]; exact hD
                exact k_zret (v := nI 1) hx hb hr hlocks rfl () (by rw [hE]; unfold putB; rw [if_pos ⟨c_67, c_78⟩]; rfl) hP hD hK hS [0, 1, 2] (by decide) rfl d_R_efficiency_198
              · refine lv_iload hx hb d_R_efficiency_118 (lv_at hl 1 rfl) ?_
                refine k_zne (tgt := 161) hx hb d_R_efficiency_120 (by decide) (fun _ => ?_) (fun h9 => absurd h9 (by decide))
                refine lv_aload_n hx hb d_R_efficiency_161 rfl (lv_at hl 2 rfl) ?_
                refine lv_dup hx hb d_R_efficiency_162 rfl ?_
                refine va_get (D := (dC, dI)) (ci := 3) (v := .int (nI nr)) (C := R_R) (T := T_R) (N := 21) hx hb hts iT_R hown hK hP 0 rfl rfl 11 (by decide) (hts _ wd_247) (fun _ h9 => h9) rfl d_R_efficiency_163 ?_
                refine lv_iload hx hb d_R_efficiency_166 (lv_at hl 1 rfl) ?_
                refine k_zeq (tgt := 175) hx hb d_R_efficiency_168 (by decide) (fun h9 => absurd h9 (by decide)) (fun _ => ?_)
                refine lv_iconst (v := nI 0) hx hb d_R_efficiency_171 (by decide) ?_
                refine lv_goto (tgt := 176) hx hb d_R_efficiency_172 (by decide) ?_
                refine lv_iadd hx hb d_R_efficiency_176 ?_
                refine k_toi (nI_add nr 0) ?_
                refine va_put (D := (dC, dI)) (ci := 3) (v := .int (nI (nr + 0))) (ty := .int) (C := R_R) (T := T_R) (N := 21) hx hb hts iT_R t_R t_R_ok n_R hown hK hP hD hS 0 rfl rfl 11 (by decide) (hts _ wd_247) (fun _ h9 => h9) rfl (by decide +kernel) rfl rfl (Nat.le_of_ble_eq_true rfl) d_R_efficiency_177 (fun H locs hP hD hS => ?_)
                have hP : va_P (dC, dI) vwCl [(h, .inr (3, [.ref aK, .ref aF, .ref aS, .ref aZ, .int (nI n), .ref aL, .int (nI sc), .ref aH, .int (nI nc), .ref sA, .ref sF, .int (nI (nr + 0)), .ref aP, .ref aC, .int (nI np), .int (zI mt), .ref mL, .ref mA, .long mb, .int (nI mc), .ref tr])), (sA, .inl (cJ, 20, .inr (.inl ra))), (sF, .inl (cJ, 20, .inr (.inl rf)))] H := hP
                have hD : va_D A [(h, .inr (3, [.ref aK, .ref aF, .ref aS, .ref aZ, .int (nI n), .ref aL, .int (nI sc), .ref aH, .int (nI nc), .ref sA, .ref sF, .int (nI (nr + 0)), .ref aP, .ref aC, .int (nI np), .int (zI mt), .ref mL, .ref mA, .long mb, .int (nI mc), .ref tr])), (sA, .inl (cJ, 20, .inr (.inl ra))), (sF, .inl (cJ, 20, .inr (.inl rf)))] := hD
                refine lv_aload_n hx hb d_R_efficiency_180 rfl (lv_at hl 2 rfl) ?_
                refine va_get (D := (dC, dI)) (ci := 3) (v := .ref sA) (C := R_R) (T := T_R) (N := 21) hx hb hts iT_R hown hK hP 0 rfl rfl 9 (by decide) (hts _ wd_215) (fun _ h9 => h9) rfl d_R_efficiency_181 ?_
                refine lv_iload hx hb d_R_efficiency_184 (lv_at hl 7 rfl) ?_
                refine lv_lload_n hx hb d_R_efficiency_186 rfl (lv_at hl 3 rfl) ?_
                refine k_last (j := rowF ra w nr) hx hb hK hP hD hS 1 0 rfl rfl (by omega) (by decide) d_R_efficiency_187 (fun H locs hP hD hS => ?_)
                have hP : va_P (dC, dI) vwCl [(h, .inr (3, [.ref aK, .ref aF, .ref aS, .ref aZ, .int (nI n), .ref aL, .int (nI sc), .ref aH, .int (nI nc), .ref sA, .ref sF, .int (nI (nr + 0)), .ref aP, .ref aC, .int (nI np), .int (zI mt), .ref mL, .ref mA, .long mb, .int (nI mc), .ref tr])), (sA, .inl (cJ, 20, .inr (.inl (vp_updL ra (rowF ra w nr) w)))), (sF, .inl (cJ, 20, .inr (.inl rf)))] H := hP
                have hD : va_D A [(h, .inr (3, [.ref aK, .ref aF, .ref aS, .ref aZ, .int (nI n), .ref aL, .int (nI sc), .ref aH, .int (nI nc), .ref sA, .ref sF, .int (nI (nr + 0)), .ref aP, .ref aC, .int (nI np), .int (zI mt), .ref mL, .ref mA, .long mb, .int (nI mc), .ref tr])), (sA, .inl (cJ, 20, .inr (.inl (vp_updL ra (rowF ra w nr) w)))), (sF, .inl (cJ, 20, .inr (.inl rf)))] := hD
                refine lv_aload_n hx hb d_R_efficiency_188 rfl (lv_at hl 2 rfl) ?_
                refine va_get (D := (dC, dI)) (ci := 3) (v := .ref sF) (C := R_R) (T := T_R) (N := 21) hx hb hts iT_R hown hK hP 0 rfl rfl 10 (by decide) (hts _ wd_216) (fun _ h9 => h9) rfl d_R_efficiency_189 ?_
                refine lv_iload hx hb d_R_efficiency_192 (lv_at hl 7 rfl) ?_
                refine lv_lload hx hb d_R_efficiency_194 (lv_at hl 6 rfl) ?_
                refine k_last (j := rowF ra w nr) hx hb hK hP hD hS 2 0 rfl rfl (by omega) (by decide) d_R_efficiency_196 (fun H locs hP hD hS => ?_)
                have hP : va_P (dC, dI) vwCl [(h, .inr (3, [.ref aK, .ref aF, .ref aS, .ref aZ, .int (nI n), .ref aL, .int (nI sc), .ref aH, .int (nI nc), .ref sA, .ref sF, .int (nI (nr + 0)), .ref aP, .ref aC, .int (nI np), .int (zI mt), .ref mL, .ref mA, .long mb, .int (nI mc), .ref tr])), (sA, .inl (cJ, 20, .inr (.inl (vp_updL ra (rowF ra w nr) w)))), (sF, .inl (cJ, 20, .inr (.inl (vp_updL rf (rowF ra w nr) (wpF a b)))))] H := hP
                have hD : va_D A [(h, .inr (3, [.ref aK, .ref aF, .ref aS, .ref aZ, .int (nI n), .ref aL, .int (nI sc), .ref aH, .int (nI nc), .ref sA, .ref sF, .int (nI (nr + 0)), .ref aP, .ref aC, .int (nI np), .int (zI mt), .ref mL, .ref mA, .long mb, .int (nI mc), .ref tr])), (sA, .inl (cJ, 20, .inr (.inl (vp_updL ra (rowF ra w nr) w)))), (sF, .inl (cJ, 20, .inr (.inl (vp_updL rf (rowF ra w nr) (wpF a b)))))] := hD
                refine lv_iconst (v := nI 1) hx hb d_R_efficiency_197 (by decide) ?_
                have fq_0 : bL (efR w a b) (putA ra nr w) ra = vp_updL ra (rowF ra w nr) w := (bL_t hE).trans ((if_pos ⟨c_67, c_78⟩).trans (updL_same c_78).symm)
                have fq_1 : bL (efR w a b) (putF ra rf nr w (wpF a b)) rf = vp_updL rf (rowF ra w nr) (wpF a b) := (bL_t hE).trans (if_pos ⟨c_67, c_78⟩)
                have fq_2 : bN (efR w a b) (putN ra nr w) nr = nr + 0 := (bN_t hE).trans (if_pos ⟨c_67, c_78⟩)
                have hP : va_P (dC, dI) vwCl [(h, .inr (3, [.ref aK, .ref aF, .ref aS, .ref aZ, .int (nI n), .ref aL, .int (nI sc), .ref aH, .int (nI nc), .ref sA, .ref sF, .int (nI (bN (efR w a b) (putN ra nr w) nr)), .ref aP, .ref aC, .int (nI np), .int (zI mt), .ref mL, .ref mA, .long mb, .int (nI mc), .ref tr])), (sA, .inl (cJ, 20, .inr (.inl (bL (efR w a b) (putA ra nr w) ra)))), (sF, .inl (cJ, 20, .inr (.inl (bL (efR w a b) (putF ra rf nr w (wpF a b)) rf))))] H := by rw [fq_0, fq_1, fq_2]; exact hP
                have hD : va_D A [(h, .inr (3, [.ref aK, .ref aF, .ref aS, .ref aZ, .int (nI n), .ref aL, .int (nI sc), .ref aH, .int (nI nc), .ref sA, .ref sF, .int (nI (bN (efR w a b) (putN ra nr w) nr)), .ref aP, .ref aC, .int (nI np), .int (zI mt), .ref mL, .ref mA, .long mb, .int (nI mc), .ref tr])), (sA, .inl (cJ, 20, .inr (.inl (bL (efR w a b) (putA ra nr w) ra)))), (sF, .inl (cJ, 20, .inr (.inl (bL (efR w a b) (putF ra rf nr w (wpF a b)) rf))))] := by rw [fq_0, fq_1, fq_2]; exact hD
                exact k_zret (v := nI 1) hx hb hr hlocks rfl () (by rw [hE]; unfold putB; rw [if_pos ⟨c_67, c_78⟩]; rfl) hP hD hK hS [0, 1, 2] (by decide) rfl d_R_efficiency_198
        refine lv_istore (lv' := [(9, .int (nI 0)), (7, .long (wpF a b)), (0, .ref h), (1, .long w), (3, .long a), (5, .long b)]) hx hb d_R_efficiency_32 hl (by decide) rfl (fun ls hl => ?_)
        have loop_34 : ∀ (fu_34 : Nat) (i : Nat) (hi : i ≤ nr) (hv : fdN (fun j => decide (w ≤ ra j)) (nr - i) i = rowF ra w nr) (hfu_34 : nr + 1 ≤ i + fu_34) (H : Heap) (locs : List Loc) (ls : Array Slot), va_P (dC, dI) vwCl [(h, .inr (3, [.ref aK, .ref aF, .ref aS, .ref aZ, .int (nI n), .ref aL, .int (nI sc), .ref aH, .int (nI nc), .ref sA, .ref sF, .int (nI nr), .ref aP, .ref aC, .int (nI np), .int (zI mt), .ref mL, .ref mA, .long mb, .int (nI mc), .ref tr])), (sA, .inl (cJ, 20, .inr (.inl ra))), (sF, .inl (cJ, 20, .inr (.inl rf)))] H → va_D A [(h, .inr (3, [.ref aK, .ref aF, .ref aS, .ref aZ, .int (nI n), .ref aL, .int (nI sc), .ref aH, .int (nI nc), .ref sA, .ref sF, .int (nI nr), .ref aP, .ref aC, .int (nI np), .int (zI mt), .ref mL, .ref mA, .long mb, .int (nI mc), .ref tr])), (sA, .inl (cJ, 20, .inr (.inl ra))), (sF, .inl (cJ, 20, .inr (.inl rf)))] → va_S A s.heap H locs → lv_has ls 12 [(0, .ref h), (1, .long w), (3, .long a), (5, .long b), (7, .long (wpF a b)), (9, .int (nI i))] → W p l e { frames := 1, cells := 0, slots := 0, locals := 24 } s m [.ref h, .long w, .long a, .long b].toArray below meth c H locs 0 0 (MQ below (q_R_efficiency dC dI cJ cI cZ h aK aF aS aZ aL aH sA sF aP aC mL mA tr n sc nc nr np mt mb mc ra rf w a b A) [.ref h, .long w, .long a, .long b].toArray s 0 0 A) (F0 m 34 ls []) := by
          intro fu_34
          induction fu_34 with
          | zero =>
            intro i hi hv hfu_34 H locs ls hP hD hS hl
            exact absurd hfu_34 (by omega)
          | succ fu_34 ih_34 =>
            intro i hi hv hfu_34 H locs ls hP hD hS hl
            refine lv_iload hx hb d_R_efficiency_34 (lv_at hl 5 rfl) ?_
            refine lv_aload_n hx hb d_R_efficiency_36 rfl (lv_at hl 0 rfl) ?_
            refine va_get (D := (dC, dI)) (ci := 3) (v := .int (nI nr)) (C := R_R) (T := T_R) (N := 21) hx hb hts iT_R hown hK hP 0 rfl rfl 11 (by decide) (hts _ wd_247) (fun _ h9 => h9) rfl d_R_efficiency_37 ?_
            refine k_nge (tgt := 61) hx hb d_R_efficiency_40 (by decide) (by omega) (by omega) (fun c_40 => ?_) (fun c_40 => ?_)
            · obtain rfl : i = rowF ra w nr := by rw [← hv, fdN_end (P := fun j => decide (w ≤ ra j)) c_40]
              exact cut_61  _ _ _ hP hD hS hl
            · refine lv_aload_n hx hb d_R_efficiency_43 rfl (lv_at hl 0 rfl) ?_
              refine va_get (D := (dC, dI)) (ci := 3) (v := .ref sA) (C := R_R) (T := T_R) (N := 21) hx hb hts iT_R hown hK hP 0 rfl rfl 9 (by decide) (hts _ wd_215) (fun _ h9 => h9) rfl d_R_efficiency_44 ?_
              refine lv_iload hx hb d_R_efficiency_47 (lv_at hl 5 rfl) ?_
              refine k_lald (j := i) hx hb hK hP 1 0 rfl rfl (by omega) (by decide) d_R_efficiency_49 ?_
              refine lv_lload_n hx hb d_R_efficiency_50 rfl (lv_at hl 1 rfl) ?_
              refine k_jge (tgt := 61) hx hb d_R_efficiency_51 d_R_efficiency_52 (by decide) (fun c_51 => ?_) (fun c_51 => ?_)
              · obtain rfl : i = rowF ra w nr := by rw [← hv, fdN_hit (P := fun j => decide (w ≤ ra j)) c_40 (decide_eq_true c_51)]
                exact cut_61  _ _ _ hP hD hS hl
              · refine lv_iinc (v := nI (i + 1)) (lv' := [(9, .int (nI (i + 1))), (0, .ref h), (1, .long w), (3, .long a), (5, .long b), (7, .long (wpF a b))]) hx hb d_R_efficiency_55 hl (k := 5) rfl (nI_add i 1) (by decide) rfl (fun ls hl => ?_)
                refine lv_goto (tgt := 34) hx hb d_R_efficiency_58 (by decide) ?_
                exact ih_34 (i + 1) (by omega) ((fdN_go (P := fun j => decide (w ≤ ra j)) c_40 (decide_eq_false (Int64.not_le.mpr c_51))).symm.trans hv) (by omega) _ _ _ hP hD hS (lv_sub hl [1, 2, 3, 4, 5, 0] rfl)
        exact loop_34 (nr + 1) 0 (by omega) rfl (by omega) _ _ _ hP hD hS (lv_sub hl [2, 3, 4, 5, 1, 0] rfl)
      · refine lv_iconst (v := nI 0) hx hb d_R_efficiency_29 (by decide) ?_
        have hY : efR w a b = false := by first | (unfold efR inB; rw [decide_eq_false (Int64.not_le.mpr c_10)]; rfl) | (unfold efR inB; rw [decide_eq_true c_10, decide_eq_false (Int64.not_le.mpr c_18)]; rfl) | (unfold efR inB nP; rw [decide_eq_true c_10, decide_eq_true c_18, decide_eq_true (wp_lt c_25)]; rfl)
        have fq_0 : bL (efR w a b) (putA ra nr w) ra = ra := bL_f hY
        have fq_1 : bL (efR w a b) (putF ra rf nr w (wpF a b)) rf = rf := bL_f hY
        have fq_2 : bN (efR w a b) (putN ra nr w) nr = nr := bN_f hY
        have hP : va_P (dC, dI) vwCl [(h, .inr (3, [.ref aK, .ref aF, .ref aS, .ref aZ, .int (nI n), .ref aL, .int (nI sc), .ref aH, .int (nI nc), .ref sA, .ref sF, .int (nI (bN (efR w a b) (putN ra nr w) nr)), .ref aP, .ref aC, .int (nI np), .int (zI mt), .ref mL, .ref mA, .long mb, .int (nI mc), .ref tr])), (sA, .inl (cJ, 20, .inr (.inl (bL (efR w a b) (putA ra nr w) ra)))), (sF, .inl (cJ, 20, .inr (.inl (bL (efR w a b) (putF ra rf nr w (wpF a b)) rf))))] H := by rw [fq_0, fq_1, fq_2]; exact hP
        have hD : va_D A [(h, .inr (3, [.ref aK, .ref aF, .ref aS, .ref aZ, .int (nI n), .ref aL, .int (nI sc), .ref aH, .int (nI nc), .ref sA, .ref sF, .int (nI (bN (efR w a b) (putN ra nr w) nr)), .ref aP, .ref aC, .int (nI np), .int (zI mt), .ref mL, .ref mA, .long mb, .int (nI mc), .ref tr])), (sA, .inl (cJ, 20, .inr (.inl (bL (efR w a b) (putA ra nr w) ra)))), (sF, .inl (cJ, 20, .inr (.inl (bL (efR w a b) (putF ra rf nr w (wpF a b)) rf))))] := by rw [fq_0, fq_1, fq_2]; exact hD
        exact k_zret (v := nI 0) hx hb hr hlocks rfl () (by rw [hY]; rfl) hP hD hK hS [0, 1, 2] (by decide) rfl d_R_efficiency_30
/-- R_reduced -/
abbrev q_R_reduced (dC : Nat → ClassId) (dI : Nat → Nat → Nat) (cJ cI cZ : ClassId) (a : Nat) (b : Nat) (part : Int32) (A : Nat → Prop) : Array Value → State → Outcome → State → Prop := va_Ql (fun (r : Int64) (_ : Unit) => r = rpF a b part) (kB (dC, dI) vwCl [(cJ, .long), (cI, .int), (cZ, .boolean)] A (fun (_ : Unit) => [])) A
set_option maxHeartbeats 4000000 in
set_option maxRecDepth 100000 in
theorem k_R_reduced (l : Launch) (dC : Nat → ClassId) (dI : Nat → Nat → Nat) (cJ cI cZ : ClassId) (sz : Nat) (a : Nat) (b : Nat) (part : Int32) (ha : a < 2 ^ 63) (hb9 : b < 2 ^ 50) (hb0 : 0 < b) : Met l y_R_reduced w_R_reduced { frames := 0, cells := 0, slots := 0, locals := 0 } (kPc (dC, dI) vwCl [(cJ, .long), (cI, .int), (cZ, .boolean)] [] sz [.long (lN a), .long (lN b), .int part]) (q_R_reduced dC dI cJ cI cZ a b part (va_A [] sz)) 0 0 (va_A [] sz) := by
  refine k_met (q_R_reduced dC dI cJ cI cZ a b part) (by decide +kernel) rfl (Nat.le_of_ble_eq_true rfl) ?_
  intro p e s m below meth c A hx hb hr hml hown hts hlocks hin hA H hP hK hD hS ls hl
  have hl : lv_has ls 11 [(0, .long (lN a)), (2, .long (lN b)), (4, .int part)] := hl
  have hown : s.vm.findClass R_R = some m.cls := hown
  have hts : ∀ wW ∈ kT, wW.before [.long (lN a), .long (lN b), .int part].toArray s = true := fun wW hW => hts wW (List.mem_cons_of_mem _ hW)
  refine lv_lload_n hx hb d_R_reduced_0 rfl (lv_at hl 1 rfl) ?_
  refine lv_lstore (lv' := [(5, .long (lN b)), (0, .long (lN a)), (2, .long (lN b)), (4, .int part)]) hx hb d_R_reduced_1 hl (by decide) rfl (fun ls hl => ?_)
  refine lv_lload_n hx hb d_R_reduced_3 rfl (lv_at hl 1 rfl) ?_
  refine lv_lstore (lv' := [(7, .long (lN a)), (5, .long (lN b)), (0, .long (lN a)), (2, .long (lN b)), (4, .int part)]) hx hb d_R_reduced_4 hl (by decide) rfl (fun ls hl => ?_)
  have loop_6 : ∀ (fu_6 : Nat) (P : Nat) (Q : Nat) (hp : P < 2 ^ 63) (hq : Q < 2 ^ 63) (h0 : 0 < P) (hg : Nat.gcd P Q = Nat.gcd a b) (hfu_6 : Q < fu_6) (H : Heap) (locs : List Loc) (ls : Array Slot), va_P (dC, dI) vwCl [] H → va_D A [] → va_S A s.heap H locs → lv_has ls 11 [(0, .long (lN a)), (2, .long (lN b)), (4, .int part), (5, .long (lN P)), (7, .long (lN Q))] → W p l e { frames := 0, cells := 0, slots := 0, locals := 0 } s m [.long (lN a), .long (lN b), .int part].toArray below meth c H locs 0 0 (MQ below (q_R_reduced dC dI cJ cI cZ a b part A) [.long (lN a), .long (lN b), .int part].toArray s 0 0 A) (F0 m 6 ls []) := by
    intro fu_6
    induction fu_6 with
    | zero =>
      intro P Q hp hq h0 hg hfu_6 H locs ls hP hD hS hl
      exact absurd hfu_6 (Nat.not_lt_zero _)
    | succ fu_6 ih_6 =>
      intro P Q hp hq h0 hg hfu_6 H locs ls hP hD hS hl
      refine lv_lload hx hb d_R_reduced_6 (lv_at hl 4 rfl) ?_
      refine lv_lconst (v := 0) hx hb d_R_reduced_8 (by decide) ?_
      refine k_jle (tgt := 31) hx hb d_R_reduced_9 d_R_reduced_10 (by decide) (fun c_9 => ?_) (fun c_9 => ?_)
      · have hQ0 := q_le0 hq c_9
        obtain rfl : P = max 1 (Nat.gcd a b) := by rw [hQ0, Nat.gcd_zero_right] at hg; omega
        refine lv_iload hx hb d_R_reduced_31 (lv_at hl 2 rfl) ?_
        refine lv_if_ne (tgt := 43) hx hb d_R_reduced_33 (by decide) (fun c_33 => ?_) (fun c_33 => ?_)
        · refine lv_lload_n hx hb d_R_reduced_43 rfl (lv_at hl 1 rfl) ?_
          refine lv_lload hx hb d_R_reduced_44 (lv_at hl 3 rfl) ?_
          refine lv_ldiv hx hb d_R_reduced_46 (lN_nz (by omega) hp) ?_
          refine k_tol (y := lN (b / (max 1 (Nat.gcd a b)))) (pk_lDiv (by omega) (by omega) hp) ?_
          exact k_lret (v := lN (b / (max 1 (Nat.gcd a b)))) hx hb hr hlocks () (by first | (unfold rpF; rw [if_pos c_33]; done) | (unfold rpF; rw [if_neg c_33]; done)) hP hD hK hS [] (by decide) rfl d_R_reduced_47
        · refine lv_lload_n hx hb d_R_reduced_36 rfl (lv_at hl 0 rfl) ?_
          refine lv_lload hx hb d_R_reduced_37 (lv_at hl 3 rfl) ?_
          refine lv_ldiv hx hb d_R_reduced_39 (lN_nz (by omega) hp) ?_
          refine k_tol (y := lN (a / (max 1 (Nat.gcd a b)))) (pk_lDiv ha (by omega) hp) ?_
          refine lv_goto (tgt := 47) hx hb d_R_reduced_40 (by decide) ?_
          exact k_lret (v := lN (a / (max 1 (Nat.gcd a b)))) hx hb hr hlocks () (by first | (unfold rpF; rw [if_pos c_33]; done) | (unfold rpF; rw [if_neg c_33]; done)) hP hD hK hS [] (by decide) rfl d_R_reduced_47
      · refine lv_lload hx hb d_R_reduced_13 (lv_at hl 3 rfl) ?_
        refine lv_lload hx hb d_R_reduced_15 (lv_at hl 4 rfl) ?_
        refine lv_lrem hx hb d_R_reduced_17 (lN_nz (q_pos2 hq c_9) hq) ?_
        refine k_tol (y := lN (P % Q)) (pk_lRem hp (q_pos2 hq c_9) hq) ?_
        refine lv_lstore (lv' := [(9, .long (lN (P % Q))), (0, .long (lN a)), (2, .long (lN b)), (4, .int part), (5, .long (lN P)), (7, .long (lN Q))]) hx hb d_R_reduced_18 hl (by decide) rfl (fun ls hl => ?_)
        refine lv_lload hx hb d_R_reduced_20 (lv_at hl 5 rfl) ?_
        refine lv_lstore (lv' := [(5, .long (lN Q)), (9, .long (lN (P % Q))), (0, .long (lN a)), (2, .long (lN b)), (4, .int part), (7, .long (lN Q))]) hx hb d_R_reduced_22 hl (by decide) rfl (fun ls hl => ?_)
        refine lv_lload hx hb d_R_reduced_24 (lv_at hl 1 rfl) ?_
        refine lv_lstore (lv' := [(7, .long (lN (P % Q))), (5, .long (lN Q)), (9, .long (lN (P % Q))), (0, .long (lN a)), (2, .long (lN b)), (4, .int part)]) hx hb d_R_reduced_26 hl (by decide) rfl (fun ls hl => ?_)
        refine lv_goto (tgt := 6) hx hb d_R_reduced_28 (by decide) ?_
        exact ih_6 Q (P % Q) hq (Nat.lt_trans (Nat.mod_lt P (q_pos2 hq c_9)) hq) (q_pos2 hq c_9) ((gcd_step P Q).trans hg) (Nat.lt_of_lt_of_le (Nat.mod_lt P (q_pos2 hq c_9)) (by omega)) _ _ _ hP hD hS (lv_sub hl [3, 4, 5, 1, 0] rfl)
  exact loop_6 (a + 1) b a (by omega) (by omega) (by omega) (Nat.gcd_comm b a) (by omega) _ _ _ hP hD hS (lv_sub hl [2, 3, 4, 1, 0] rfl)
