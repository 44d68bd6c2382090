-- ===== PART A: goes FIRST, ahead of the names: the tables' words, and 'selects' of the private methods out of them =====
/-- a private method of a class that the tables say can be made, by its rows of tables_1 -/
def lw_okq (q : MethodName × Nat) : Prop := (q.1.cls ≠ "java/lang/invoke/MethodHandle" ∧ q.1.cls ≠ "java/lang/invoke/VarHandle") ∧ Cond.instantiable q.1.cls q.2 ∈ tables_1 ∧ Cond.privateMethod q.1 ∈ tables_1 ∧ Cond.instanceMethod q.1 ∈ tables_1
theorem lw_p0 : lw_okq (⟨"FatBalance", "addLot", "(JJJ)I"⟩, 14) := ⟨⟨by decide +kernel, by decide +kernel⟩, List.mem_of_getElem? (i := 7) (by decide +kernel), List.mem_of_getElem? (i := 124) (by decide +kernel), List.mem_of_getElem? (i := 125) (by decide +kernel)⟩
theorem lw_p1 : lw_okq (⟨"FatBalance", "isUnseparated", "(I)Z"⟩, 14) := ⟨⟨by decide +kernel, by decide +kernel⟩, List.mem_of_getElem? (i := 7) (by decide +kernel), List.mem_of_getElem? (i := 132) (by decide +kernel), List.mem_of_getElem? (i := 133) (by decide +kernel)⟩
theorem lw_p2 : lw_okq (⟨"FatBalance", "isLot", "(I)Z"⟩, 14) := ⟨⟨by decide +kernel, by decide +kernel⟩, List.mem_of_getElem? (i := 7) (by decide +kernel), List.mem_of_getElem? (i := 136) (by decide +kernel), List.mem_of_getElem? (i := 137) (by decide +kernel)⟩
theorem lw_p3 : lw_okq (⟨"FatBalance$Separator", "firstNotBefore", "(J)I"⟩, 3) := ⟨⟨by decide +kernel, by decide +kernel⟩, List.mem_of_getElem? (i := 15) (by decide +kernel), List.mem_of_getElem? (i := 148) (by decide +kernel), List.mem_of_getElem? (i := 149) (by decide +kernel)⟩
theorem lw_p4 : lw_okq (⟨"FatBalance$Separator", "between", "(IIJ)J"⟩, 3) := ⟨⟨by decide +kernel, by decide +kernel⟩, List.mem_of_getElem? (i := 15) (by decide +kernel), List.mem_of_getElem? (i := 152) (by decide +kernel), List.mem_of_getElem? (i := 153) (by decide +kernel)⟩
theorem lw_p5 : lw_okq (⟨"FatBalance", "split", "(IJJ)I"⟩, 14) := ⟨⟨by decide +kernel, by decide +kernel⟩, List.mem_of_getElem? (i := 7) (by decide +kernel), List.mem_of_getElem? (i := 159) (by decide +kernel), List.mem_of_getElem? (i := 160) (by decide +kernel)⟩
theorem lw_p6 : lw_okq (⟨"FatBalance", "unchoose", "(I)V"⟩, 14) := ⟨⟨by decide +kernel, by decide +kernel⟩, List.mem_of_getElem? (i := 7) (by decide +kernel), List.mem_of_getElem? (i := 163) (by decide +kernel), List.mem_of_getElem? (i := 164) (by decide +kernel)⟩
theorem lw_p7 : lw_okq (⟨"FatBalance", "placeAmongChosen", "(I)I"⟩, 14) := ⟨⟨by decide +kernel, by decide +kernel⟩, List.mem_of_getElem? (i := 7) (by decide +kernel), List.mem_of_getElem? (i := 167) (by decide +kernel), List.mem_of_getElem? (i := 168) (by decide +kernel)⟩
theorem lw_p8 : lw_okq (⟨"FatBalance$Mixture", "tryOne", "(I)V"⟩, 9) := ⟨⟨by decide +kernel, by decide +kernel⟩, List.mem_of_getElem? (i := 34) (by decide +kernel), List.mem_of_getElem? (i := 191) (by decide +kernel), List.mem_of_getElem? (i := 192) (by decide +kernel)⟩
theorem lw_p9 : lw_okq (⟨"FatBalance$Mixture", "startTrial", "(J)V"⟩, 9) := ⟨⟨by decide +kernel, by decide +kernel⟩, List.mem_of_getElem? (i := 34) (by decide +kernel), List.mem_of_getElem? (i := 195) (by decide +kernel), List.mem_of_getElem? (i := 196) (by decide +kernel)⟩
theorem lw_p10 : lw_okq (⟨"FatBalance$Mixture", "keepIfBetter", "()V"⟩, 9) := ⟨⟨by decide +kernel, by decide +kernel⟩, List.mem_of_getElem? (i := 34) (by decide +kernel), List.mem_of_getElem? (i := 199) (by decide +kernel), List.mem_of_getElem? (i := 200) (by decide +kernel)⟩
theorem lw_p11 : lw_okq (⟨"FatBalance$Mixture", "isTrialPossible", "()Z"⟩, 9) := ⟨⟨by decide +kernel, by decide +kernel⟩, List.mem_of_getElem? (i := 34) (by decide +kernel), List.mem_of_getElem? (i := 203) (by decide +kernel), List.mem_of_getElem? (i := 204) (by decide +kernel)⟩
theorem lw_p12 : lw_okq (⟨"FatBalance$Mixture", "isTrialBetter", "()Z"⟩, 9) := ⟨⟨by decide +kernel, by decide +kernel⟩, List.mem_of_getElem? (i := 34) (by decide +kernel), List.mem_of_getElem? (i := 207) (by decide +kernel), List.mem_of_getElem? (i := 208) (by decide +kernel)⟩
theorem lw_p13 : lw_okq (⟨"FatBalance$Mixture", "tryTwo", "(II)V"⟩, 9) := ⟨⟨by decide +kernel, by decide +kernel⟩, List.mem_of_getElem? (i := 34) (by decide +kernel), List.mem_of_getElem? (i := 211) (by decide +kernel), List.mem_of_getElem? (i := 212) (by decide +kernel)⟩
theorem lw_p14 : lw_okq (⟨"FatBalance$Mixture", "product", "(III)J"⟩, 9) := ⟨⟨by decide +kernel, by decide +kernel⟩, List.mem_of_getElem? (i := 34) (by decide +kernel), List.mem_of_getElem? (i := 215) (by decide +kernel), List.mem_of_getElem? (i := 216) (by decide +kernel)⟩
theorem lw_p15 : lw_okq (⟨"FatBalance$Mixture", "doubleArea", "(III)J"⟩, 9) := ⟨⟨by decide +kernel, by decide +kernel⟩, List.mem_of_getElem? (i := 34) (by decide +kernel), List.mem_of_getElem? (i := 219) (by decide +kernel), List.mem_of_getElem? (i := 220) (by decide +kernel)⟩
def lw_privs_1 : List (MethodName × Nat) := [(⟨"FatBalance", "addLot", "(JJJ)I"⟩, 14), (⟨"FatBalance", "isUnseparated", "(I)Z"⟩, 14), (⟨"FatBalance", "isLot", "(I)Z"⟩, 14), (⟨"FatBalance$Separator", "firstNotBefore", "(J)I"⟩, 3), (⟨"FatBalance$Separator", "between", "(IIJ)J"⟩, 3), (⟨"FatBalance", "split", "(IJJ)I"⟩, 14), (⟨"FatBalance", "unchoose", "(I)V"⟩, 14), (⟨"FatBalance", "placeAmongChosen", "(I)I"⟩, 14), (⟨"FatBalance$Mixture", "tryOne", "(I)V"⟩, 9), (⟨"FatBalance$Mixture", "startTrial", "(J)V"⟩, 9), (⟨"FatBalance$Mixture", "keepIfBetter", "()V"⟩, 9), (⟨"FatBalance$Mixture", "isTrialPossible", "()Z"⟩, 9), (⟨"FatBalance$Mixture", "isTrialBetter", "()Z"⟩, 9), (⟨"FatBalance$Mixture", "tryTwo", "(II)V"⟩, 9), (⟨"FatBalance$Mixture", "product", "(III)J"⟩, 9), (⟨"FatBalance$Mixture", "doubleArea", "(III)J"⟩, 9)]
theorem lw_r1 : ∀ q ∈ lw_privs_1, lw_okq q := List.forall_mem_cons.mpr ⟨lw_p0, List.forall_mem_cons.mpr ⟨lw_p1, List.forall_mem_cons.mpr ⟨lw_p2, List.forall_mem_cons.mpr ⟨lw_p3, List.forall_mem_cons.mpr ⟨lw_p4, List.forall_mem_cons.mpr ⟨lw_p5, List.forall_mem_cons.mpr ⟨lw_p6, List.forall_mem_cons.mpr ⟨lw_p7, List.forall_mem_cons.mpr ⟨lw_p8, List.forall_mem_cons.mpr ⟨lw_p9, List.forall_mem_cons.mpr ⟨lw_p10, List.forall_mem_cons.mpr ⟨lw_p11, List.forall_mem_cons.mpr ⟨lw_p12, List.forall_mem_cons.mpr ⟨lw_p13, List.forall_mem_cons.mpr ⟨lw_p14, List.forall_mem_cons.mpr ⟨lw_p15, fun _ h => absurd h List.not_mem_nil⟩⟩⟩⟩⟩⟩⟩⟩⟩⟩⟩⟩⟩⟩⟩⟩
theorem lw_p16 : lw_okq (⟨"FatBalance$Mixture", "tryThree", "(III)V"⟩, 9) := ⟨⟨by decide +kernel, by decide +kernel⟩, List.mem_of_getElem? (i := 34) (by decide +kernel), List.mem_of_getElem? (i := 223) (by decide +kernel), List.mem_of_getElem? (i := 224) (by decide +kernel)⟩
theorem lw_p17 : lw_okq (⟨"FatBalance", "yieldAbove", "(II)J"⟩, 14) := ⟨⟨by decide +kernel, by decide +kernel⟩, List.mem_of_getElem? (i := 7) (by decide +kernel), List.mem_of_getElem? (i := 258) (by decide +kernel), List.mem_of_getElem? (i := 259) (by decide +kernel)⟩
theorem lw_p18 : lw_okq (⟨"FatBalanceModel", "put", "(JJJ)I"⟩, 21) := ⟨⟨by decide +kernel, by decide +kernel⟩, List.mem_of_getElem? (i := 307) (by decide +kernel), List.mem_of_getElem? (i := 387) (by decide +kernel), List.mem_of_getElem? (i := 388) (by decide +kernel)⟩
theorem lw_p19 : lw_okq (⟨"FatBalanceModel", "isLot", "(I)Z"⟩, 21) := ⟨⟨by decide +kernel, by decide +kernel⟩, List.mem_of_getElem? (i := 307) (by decide +kernel), List.mem_of_getElem? (i := 395) (by decide +kernel), List.mem_of_getElem? (i := 396) (by decide +kernel)⟩
theorem lw_p20 : lw_okq (⟨"FatBalanceModel", "left", "(J)J"⟩, 21) := ⟨⟨by decide +kernel, by decide +kernel⟩, List.mem_of_getElem? (i := 307) (by decide +kernel), List.mem_of_getElem? (i := 403) (by decide +kernel), List.mem_of_getElem? (i := 404) (by decide +kernel)⟩
theorem lw_p21 : lw_okq (⟨"FatBalanceModel", "clearTrial", "()V"⟩, 21) := ⟨⟨by decide +kernel, by decide +kernel⟩, List.mem_of_getElem? (i := 307) (by decide +kernel), List.mem_of_getElem? (i := 419) (by decide +kernel), List.mem_of_getElem? (i := 420) (by decide +kernel)⟩
theorem lw_p22 : lw_okq (⟨"FatBalanceModel", "take", "(J)V"⟩, 21) := ⟨⟨by decide +kernel, by decide +kernel⟩, List.mem_of_getElem? (i := 307) (by decide +kernel), List.mem_of_getElem? (i := 423) (by decide +kernel), List.mem_of_getElem? (i := 424) (by decide +kernel)⟩
theorem lw_p23 : lw_okq (⟨"FatBalanceModel", "between", "(IIJJ)V"⟩, 21) := ⟨⟨by decide +kernel, by decide +kernel⟩, List.mem_of_getElem? (i := 307) (by decide +kernel), List.mem_of_getElem? (i := 427) (by decide +kernel), List.mem_of_getElem? (i := 428) (by decide +kernel)⟩
theorem lw_p24 : lw_okq (⟨"FatBalanceModel", "inside", "(IIIJJ)V"⟩, 21) := ⟨⟨by decide +kernel, by decide +kernel⟩, List.mem_of_getElem? (i := 307) (by decide +kernel), List.mem_of_getElem? (i := 434) (by decide +kernel), List.mem_of_getElem? (i := 435) (by decide +kernel)⟩
def lw_privs_2 : List (MethodName × Nat) := [(⟨"FatBalance$Mixture", "tryThree", "(III)V"⟩, 9), (⟨"FatBalance", "yieldAbove", "(II)J"⟩, 14), (⟨"FatBalanceModel", "put", "(JJJ)I"⟩, 21), (⟨"FatBalanceModel", "isLot", "(I)Z"⟩, 21), (⟨"FatBalanceModel", "left", "(J)J"⟩, 21), (⟨"FatBalanceModel", "clearTrial", "()V"⟩, 21), (⟨"FatBalanceModel", "take", "(J)V"⟩, 21), (⟨"FatBalanceModel", "between", "(IIJJ)V"⟩, 21), (⟨"FatBalanceModel", "inside", "(IIIJJ)V"⟩, 21)]
theorem lw_r2 : ∀ q ∈ lw_privs_2, lw_okq q := List.forall_mem_cons.mpr ⟨lw_p16, List.forall_mem_cons.mpr ⟨lw_p17, List.forall_mem_cons.mpr ⟨lw_p18, List.forall_mem_cons.mpr ⟨lw_p19, List.forall_mem_cons.mpr ⟨lw_p20, List.forall_mem_cons.mpr ⟨lw_p21, List.forall_mem_cons.mpr ⟨lw_p22, List.forall_mem_cons.mpr ⟨lw_p23, List.forall_mem_cons.mpr ⟨lw_p24, fun _ h => absurd h List.not_mem_nil⟩⟩⟩⟩⟩⟩⟩⟩⟩
def lw_privs : List (MethodName × Nat) := lw_privs_1 ++ (lw_privs_2)
def lw_tbl : List Cond := k2_sels lw_privs ++ tables_1
theorem lw_privs_ok : ∀ q ∈ lw_privs, lw_okq q := by
  show ∀ q ∈ lw_privs_1 ++ (lw_privs_2), lw_okq q
  exact List.forall_mem_append.mpr ⟨lw_r1, lw_r2⟩
/-! names: classes, their fields in the order of the slots, methods, words -/
def kT : List Cond := lw_tbl.filter goodWord
theorem kT_in {w : Cond} (h : w ∈ lw_tbl) (g : goodWord w = true) : w ∈ kT := List.mem_filter.mpr ⟨h, g⟩
theorem kT_p {w : Cond} {i : Nat} (h : (k2_sels lw_privs)[i]? = some w) (g : goodWord w = true) : w ∈ kT := kT_in (List.mem_append_left _ (List.mem_of_getElem? h)) g
theorem kT_1 {w : Cond} {i : Nat} (h : tables_1_1[i]? = some w) (g : goodWord w = true) : w ∈ kT := kT_in (List.mem_append_right _ (List.mem_append_left _ (List.mem_of_getElem? h))) g
theorem kT_2 {w : Cond} {i : Nat} (h : tables_1_2[i]? = some w) (g : goodWord w = true) : w ∈ kT := kT_in (List.mem_append_right _ (List.mem_append_right _ (List.mem_of_getElem? h))) g
theorem kT_good {w : Cond} (h : w ∈ kT) : GoodIn kT (w :: kT) := fun v hv => by
  have hm : v ∈ kT := (List.mem_cons.mp hv).elim (fun e => e ▸ h) id
  exact ⟨hm, good_of_word (List.mem_filter.mp hm).2⟩
abbrev R_X : String := "FatBalance"
def T_X : u_T := fun k => match k with
  | 0 => ("FatBalance", "kilograms", "[J", true)
  | 1 => ("FatBalance", "fatParts", "[J", true)
  | 2 => ("FatBalance", "solidParts", "[J", true)
  | 3 => ("FatBalance", "separated", "[Z", true)
  | 4 => ("FatBalance", "lotCount", "I", false)
  | 5 => ("FatBalance", "lost", "[J", true)
  | 6 => ("FatBalance", "separationCount", "I", false)
  | 7 => ("FatBalance", "penaltyFrom", "[J", true)
  | 8 => ("FatBalance", "penaltyCents", "[J", true)
  | 9 => ("FatBalance", "penaltyCount", "I", false)
  | 10 => ("FatBalance", "chosen", "[I", true)
  | 11 => ("FatBalance", "chosenCount", "I", false)
  | 12 => ("FatBalance", "separator", "LFatBalance$Separator;", true)
  | _ => ("FatBalance", "mixture", "LFatBalance$Mixture;", true)
def t_X : Nat → FieldType := fun k => match k with
  | 0 => .array .long
  | 1 => .array .long
  | 2 => .array .long
  | 3 => .array .boolean
  | 4 => .int
  | 5 => .array .long
  | 6 => .int
  | 7 => .array .long
  | 8 => .array .long
  | 9 => .int
  | 10 => .array .int
  | 11 => .int
  | 12 => .object "FatBalance$Separator"
  | _ => .object "FatBalance$Mixture"
theorem n_X : ∀ a, a < 14 → ∀ b, b < 14 → a ≠ b → (T_X a).2.1 ≠ (T_X b).2.1 := by decide +kernel
theorem t_X_ok : ∀ k, k < 14 → parseFieldDescriptor (T_X k).2.2.1 = some (t_X k) := by decide +kernel
set_option maxRecDepth 20000 in
theorem iT0_X : ∀ w ∈ u_ws R_X T_X 14, w ∈ lw_tbl := by decide +kernel
theorem iT_X : ∀ w ∈ u_ws R_X T_X 14, w ∈ kT := fun w h => kT_in (iT0_X w h) ((by decide +kernel : ∀ w ∈ u_ws R_X T_X 14, goodWord w = true) w h)
abbrev R_M : String := "FatBalance$Mixture"
def T_M : u_T := fun k => match k with
  | 0 => ("FatBalance$Mixture", "lots", "[I", true)
  | 1 => ("FatBalance$Mixture", "count", "I", false)
  | 2 => ("FatBalance$Mixture", "fats", "[J", true)
  | 3 => ("FatBalance$Mixture", "solidsOfPoints", "[J", true)
  | 4 => ("FatBalance$Mixture", "trial", "[J", true)
  | 5 => ("FatBalance$Mixture", "trialBelow", "J", false)
  | 6 => ("FatBalance$Mixture", "best", "[J", true)
  | 7 => ("FatBalance$Mixture", "bestBelow", "J", false)
  | _ => ("FatBalance$Mixture", "met", "Z", false)
def t_M : Nat → FieldType := fun k => match k with
  | 0 => .array .int
  | 1 => .int
  | 2 => .array .long
  | 3 => .array .long
  | 4 => .array .long
  | 5 => .long
  | 6 => .array .long
  | 7 => .long
  | _ => .boolean
theorem n_M : ∀ a, a < 9 → ∀ b, b < 9 → a ≠ b → (T_M a).2.1 ≠ (T_M b).2.1 := by decide +kernel
theorem t_M_ok : ∀ k, k < 9 → parseFieldDescriptor (T_M k).2.2.1 = some (t_M k) := by decide +kernel
set_option maxRecDepth 20000 in
theorem iT0_M : ∀ w ∈ u_ws R_M T_M 9, w ∈ lw_tbl := by decide +kernel
theorem iT_M : ∀ w ∈ u_ws R_M T_M 9, w ∈ kT := fun w h => kT_in (iT0_M w h) ((by decide +kernel : ∀ w ∈ u_ws R_M T_M 9, goodWord w = true) w h)
abbrev R_S : String := "FatBalance$Separator"
def T_S : u_T := fun k => match k with
  | 0 => ("FatBalance$Separator", "rowAt", "[J", true)
  | 1 => ("FatBalance$Separator", "rowFat", "[J", true)
  | _ => ("FatBalance$Separator", "rowCount", "I", false)
def t_S : Nat → FieldType := fun k => match k with
  | 0 => .array .long
  | 1 => .array .long
  | _ => .int
theorem n_S : ∀ a, a < 3 → ∀ b, b < 3 → a ≠ b → (T_S a).2.1 ≠ (T_S b).2.1 := by decide +kernel
theorem t_S_ok : ∀ k, k < 3 → parseFieldDescriptor (T_S k).2.2.1 = some (t_S k) := by decide +kernel
set_option maxRecDepth 20000 in
theorem iT0_S : ∀ w ∈ u_ws R_S T_S 3, w ∈ lw_tbl := by decide +kernel
theorem iT_S : ∀ w ∈ u_ws R_S T_S 3, w ∈ kT := fun w h => kT_in (iT0_S w h) ((by decide +kernel : ∀ w ∈ u_ws R_S T_S 3, goodWord w = true) w h)
abbrev R_R : String := "FatBalanceModel"
def T_R : u_T := fun k => match k with
  | 0 => ("FatBalanceModel", "kilos", "[J", true)
  | 1 => ("FatBalanceModel", "fats", "[J", true)
  | 2 => ("FatBalanceModel", "solids", "[J", true)
  | 3 => ("FatBalanceModel", "parted", "[Z", true)
  | 4 => ("FatBalanceModel", "lots", "I", false)
  | 5 => ("FatBalanceModel", "losses", "[J", true)
  | 6 => ("FatBalanceModel", "separations", "I", false)
  | 7 => ("FatBalanceModel", "chosen", "[I", true)
  | 8 => ("FatBalanceModel", "count", "I", false)
  | 9 => ("FatBalanceModel", "rowAt", "[J", true)
  | 10 => ("FatBalanceModel", "rowFat", "[J", true)
  | 11 => ("FatBalanceModel", "rows", "I", false)
  | 12 => ("FatBalanceModel", "penaltyFrom", "[J", true)
  | 13 => ("FatBalanceModel", "penaltyCents", "[J", true)
  | 14 => ("FatBalanceModel", "penalties", "I", false)
  | 15 => ("FatBalanceModel", "met", "Z", false)
  | 16 => ("FatBalanceModel", "metLots", "[I", true)
  | 17 => ("FatBalanceModel", "metAbove", "[J", true)
  | 18 => ("FatBalanceModel", "metBelow", "J", false)
  | 19 => ("FatBalanceModel", "metCount", "I", false)
  | _ => ("FatBalanceModel", "trial", "[J", true)
def t_R : Nat → FieldType := fun k => match k with
  | 0 => .array .long
  | 1 => .array .long
  | 2 => .array .long
  | 3 => .array .boolean
  | 4 => .int
  | 5 => .array .long
  | 6 => .int
  | 7 => .array .int
  | 8 => .int
  | 9 => .array .long
  | 10 => .array .long
  | 11 => .int
  | 12 => .array .long
  | 13 => .array .long
  | 14 => .int
  | 15 => .boolean
  | 16 => .array .int
  | 17 => .array .long
  | 18 => .long
  | 19 => .int
  | _ => .array .long
theorem n_R : ∀ a, a < 21 → ∀ b, b < 21 → a ≠ b → (T_R a).2.1 ≠ (T_R b).2.1 := by decide +kernel
theorem t_R_ok : ∀ k, k < 21 → parseFieldDescriptor (T_R k).2.2.1 = some (t_R k) := by decide +kernel
set_option maxRecDepth 20000 in
theorem iT0_R : ∀ w ∈ u_ws R_R T_R 21, w ∈ lw_tbl := by decide +kernel
theorem iT_R : ∀ w ∈ u_ws R_R T_R 21, w ∈ kT := fun w h => kT_in (iT0_R w h) ((by decide +kernel : ∀ w ∈ u_ws R_R T_R 21, goodWord w = true) w h)
abbrev R_L : String := "FatBalanceLaw"
abbrev R_J : String := "java/lang/Math"
abbrev vwCl : List vw_C := [(R_X, T_X, 14), (R_M, T_M, 9), (R_S, T_S, 3), (R_R, T_R, 21)]
abbrev b_X_init : ByteArray := prog_1_method_1_code
def y_X_init : MethodName := ⟨"FatBalance", "<init>", "()V"⟩
def w_X_init : List Cond := Cond.code y_X_init b_X_init 1 none :: kT
theorem hd_X_init : y_X_init.cls ≠ "java/lang/invoke/MethodHandle" ∧ y_X_init.cls ≠ "java/lang/invoke/VarHandle" ∧ (parseMethodDescriptor y_X_init.desc).map (fun d => d.parameters.length) = some 0 := by decide +kernel
abbrev b_S_init : ByteArray := prog_3_method_1_code
def y_S_init : MethodName := ⟨"FatBalance$Separator", "<init>", "()V"⟩
def w_S_init : List Cond := Cond.code y_S_init b_S_init 1 none :: kT
theorem hd_S_init : y_S_init.cls ≠ "java/lang/invoke/MethodHandle" ∧ y_S_init.cls ≠ "java/lang/invoke/VarHandle" ∧ (parseMethodDescriptor y_S_init.desc).map (fun d => d.parameters.length) = some 0 := by decide +kernel
abbrev b_M_init : ByteArray := prog_2_method_1_code
def y_M_init : MethodName := ⟨"FatBalance$Mixture", "<init>", "()V"⟩
def w_M_init : List Cond := Cond.code y_M_init b_M_init 1 none :: kT
theorem hd_M_init : y_M_init.cls ≠ "java/lang/invoke/MethodHandle" ∧ y_M_init.cls ≠ "java/lang/invoke/VarHandle" ∧ (parseMethodDescriptor y_M_init.desc).map (fun d => d.parameters.length) = some 0 := by decide +kernel
abbrev b_X_lot : ByteArray := prog_1_method_2_code
def y_X_lot : MethodName := ⟨"FatBalance", "lot", "(JJJ)I"⟩
def w_X_lot : List Cond := Cond.code y_X_lot b_X_lot 9 (some .int) :: kT
theorem hd_X_lot : y_X_lot.cls ≠ "java/lang/invoke/MethodHandle" ∧ y_X_lot.cls ≠ "java/lang/invoke/VarHandle" ∧ (parseMethodDescriptor y_X_lot.desc).map (fun d => d.parameters.length) = some 3 := by decide +kernel
abbrev b_X_wholeParts : ByteArray := prog_1_method_23_code
def y_X_wholeParts : MethodName := ⟨"FatBalance", "wholeParts", "(JJ)J"⟩
def w_X_wholeParts : List Cond := Cond.code y_X_wholeParts b_X_wholeParts 6 (some .long) :: kT
theorem hd_X_wholeParts : y_X_wholeParts.cls ≠ "java/lang/invoke/MethodHandle" ∧ y_X_wholeParts.cls ≠ "java/lang/invoke/VarHandle" ∧ (parseMethodDescriptor y_X_wholeParts.desc).map (fun d => d.parameters.length) = some 2 := by decide +kernel
abbrev b_X_isWithin : ByteArray := prog_1_method_22_code
def y_X_isWithin : MethodName := ⟨"FatBalance", "isWithin", "(JJJ)Z"⟩
def w_X_isWithin : List Cond := Cond.code y_X_isWithin b_X_isWithin 6 (some .boolean) :: kT
theorem hd_X_isWithin : y_X_isWithin.cls ≠ "java/lang/invoke/MethodHandle" ∧ y_X_isWithin.cls ≠ "java/lang/invoke/VarHandle" ∧ (parseMethodDescriptor y_X_isWithin.desc).map (fun d => d.parameters.length) = some 3 := by decide +kernel
abbrev b_X_addLot : ByteArray := prog_1_method_16_code
def y_X_addLot : MethodName := ⟨"FatBalance", "addLot", "(JJJ)I"⟩
def w_X_addLot : List Cond := Cond.code y_X_addLot b_X_addLot 8 (some .int) :: kT
theorem hd_X_addLot : y_X_addLot.cls ≠ "java/lang/invoke/MethodHandle" ∧ y_X_addLot.cls ≠ "java/lang/invoke/VarHandle" ∧ (parseMethodDescriptor y_X_addLot.desc).map (fun d => d.parameters.length) = some 3 := by decide +kernel
abbrev b_X_solids : ByteArray := prog_1_method_3_code
def y_X_solids : MethodName := ⟨"FatBalance", "solids", "(IJJ)Z"⟩
def w_X_solids : List Cond := Cond.code y_X_solids b_X_solids 8 (some .boolean) :: kT
theorem hd_X_solids : y_X_solids.cls ≠ "java/lang/invoke/MethodHandle" ∧ y_X_solids.cls ≠ "java/lang/invoke/VarHandle" ∧ (parseMethodDescriptor y_X_solids.desc).map (fun d => d.parameters.length) = some 3 := by decide +kernel
abbrev b_X_isUnseparated : ByteArray := prog_1_method_15_code
def y_X_isUnseparated : MethodName := ⟨"FatBalance", "isUnseparated", "(I)Z"⟩
def w_X_isUnseparated : List Cond := Cond.code y_X_isUnseparated b_X_isUnseparated 2 (some .boolean) :: kT
theorem hd_X_isUnseparated : y_X_isUnseparated.cls ≠ "java/lang/invoke/MethodHandle" ∧ y_X_isUnseparated.cls ≠ "java/lang/invoke/VarHandle" ∧ (parseMethodDescriptor y_X_isUnseparated.desc).map (fun d => d.parameters.length) = some 1 := by decide +kernel
abbrev b_X_isLot : ByteArray := prog_1_method_14_code
def y_X_isLot : MethodName := ⟨"FatBalance", "isLot", "(I)Z"⟩
def w_X_isLot : List Cond := Cond.code y_X_isLot b_X_isLot 2 (some .boolean) :: kT
theorem hd_X_isLot : y_X_isLot.cls ≠ "java/lang/invoke/MethodHandle" ∧ y_X_isLot.cls ≠ "java/lang/invoke/VarHandle" ∧ (parseMethodDescriptor y_X_isLot.desc).map (fun d => d.parameters.length) = some 1 := by decide +kernel
abbrev b_X_separate : ByteArray := prog_1_method_4_code
def y_X_separate : MethodName := ⟨"FatBalance", "separate", "(IJJ)I"⟩
def w_X_separate : List Cond := Cond.code y_X_separate b_X_separate 10 (some .int) :: kT
theorem hd_X_separate : y_X_separate.cls ≠ "java/lang/invoke/MethodHandle" ∧ y_X_separate.cls ≠ "java/lang/invoke/VarHandle" ∧ (parseMethodDescriptor y_X_separate.desc).map (fun d => d.parameters.length) = some 3 := by decide +kernel
abbrev b_S_skimFatAt : ByteArray := prog_3_method_3_code
def y_S_skimFatAt : MethodName := ⟨"FatBalance$Separator", "skimFatAt", "(J)J"⟩
def w_S_skimFatAt : List Cond := Cond.code y_S_skimFatAt b_S_skimFatAt 4 (some .long) :: kT
theorem hd_S_skimFatAt : y_S_skimFatAt.cls ≠ "java/lang/invoke/MethodHandle" ∧ y_S_skimFatAt.cls ≠ "java/lang/invoke/VarHandle" ∧ (parseMethodDescriptor y_S_skimFatAt.desc).map (fun d => d.parameters.length) = some 1 := by decide +kernel
abbrev b_S_firstNotBefore : ByteArray := prog_3_method_5_code
def y_S_firstNotBefore : MethodName := ⟨"FatBalance$Separator", "firstNotBefore", "(J)I"⟩
def w_S_firstNotBefore : List Cond := Cond.code y_S_firstNotBefore b_S_firstNotBefore 4 (some .int) :: kT
theorem hd_S_firstNotBefore : y_S_firstNotBefore.cls ≠ "java/lang/invoke/MethodHandle" ∧ y_S_firstNotBefore.cls ≠ "java/lang/invoke/VarHandle" ∧ (parseMethodDescriptor y_S_firstNotBefore.desc).map (fun d => d.parameters.length) = some 1 := by decide +kernel
abbrev b_S_between : ByteArray := prog_3_method_4_code
def y_S_between : MethodName := ⟨"FatBalance$Separator", "between", "(IIJ)J"⟩
def w_S_between : List Cond := Cond.code y_S_between b_S_between 7 (some .long) :: kT
theorem hd_S_between : y_S_between.cls ≠ "java/lang/invoke/MethodHandle" ∧ y_S_between.cls ≠ "java/lang/invoke/VarHandle" ∧ (parseMethodDescriptor y_S_between.desc).map (fun d => d.parameters.length) = some 3 := by decide +kernel
abbrev b_J_floorDiv : ByteArray := prog_6_method_49_code
def y_J_floorDiv : MethodName := ⟨"java/lang/Math", "floorDiv", "(JJ)J"⟩
def w_J_floorDiv : List Cond := Cond.code y_J_floorDiv b_J_floorDiv 6 (some .long) :: kT
theorem hd_J_floorDiv : y_J_floorDiv.cls ≠ "java/lang/invoke/MethodHandle" ∧ y_J_floorDiv.cls ≠ "java/lang/invoke/VarHandle" ∧ (parseMethodDescriptor y_J_floorDiv.desc).map (fun d => d.parameters.length) = some 2 := by decide +kernel
abbrev b_X_split : ByteArray := prog_1_method_17_code
def y_X_split : MethodName := ⟨"FatBalance", "split", "(IJJ)I"⟩
def w_X_split : List Cond := Cond.code y_X_split b_X_split 15 (some .int) :: kT
theorem hd_X_split : y_X_split.cls ≠ "java/lang/invoke/MethodHandle" ∧ y_X_split.cls ≠ "java/lang/invoke/VarHandle" ∧ (parseMethodDescriptor y_X_split.desc).map (fun d => d.parameters.length) = some 3 := by decide +kernel
abbrev b_X_unchoose : ByteArray := prog_1_method_19_code
def y_X_unchoose : MethodName := ⟨"FatBalance", "unchoose", "(I)V"⟩
def w_X_unchoose : List Cond := Cond.code y_X_unchoose b_X_unchoose 4 none :: kT
theorem hd_X_unchoose : y_X_unchoose.cls ≠ "java/lang/invoke/MethodHandle" ∧ y_X_unchoose.cls ≠ "java/lang/invoke/VarHandle" ∧ (parseMethodDescriptor y_X_unchoose.desc).map (fun d => d.parameters.length) = some 1 := by decide +kernel
abbrev b_X_placeAmongChosen : ByteArray := prog_1_method_18_code
def y_X_placeAmongChosen : MethodName := ⟨"FatBalance", "placeAmongChosen", "(I)I"⟩
def w_X_placeAmongChosen : List Cond := Cond.code y_X_placeAmongChosen b_X_placeAmongChosen 3 (some .int) :: kT
theorem hd_X_placeAmongChosen : y_X_placeAmongChosen.cls ≠ "java/lang/invoke/MethodHandle" ∧ y_X_placeAmongChosen.cls ≠ "java/lang/invoke/VarHandle" ∧ (parseMethodDescriptor y_X_placeAmongChosen.desc).map (fun d => d.parameters.length) = some 1 := by decide +kernel
abbrev b_X_choose : ByteArray := prog_1_method_5_code
def y_X_choose : MethodName := ⟨"FatBalance", "choose", "(I)Z"⟩
def w_X_choose : List Cond := Cond.code y_X_choose b_X_choose 2 (some .boolean) :: kT
theorem hd_X_choose : y_X_choose.cls ≠ "java/lang/invoke/MethodHandle" ∧ y_X_choose.cls ≠ "java/lang/invoke/VarHandle" ∧ (parseMethodDescriptor y_X_choose.desc).map (fun d => d.parameters.length) = some 1 := by decide +kernel
abbrev b_X_standard : ByteArray := prog_1_method_6_code
def y_X_standard : MethodName := ⟨"FatBalance", "standard", "(JJJ)I"⟩
def w_X_standard : List Cond := Cond.code y_X_standard b_X_standard 13 (some .int) :: kT
theorem hd_X_standard : y_X_standard.cls ≠ "java/lang/invoke/MethodHandle" ∧ y_X_standard.cls ≠ "java/lang/invoke/VarHandle" ∧ (parseMethodDescriptor y_X_standard.desc).map (fun d => d.parameters.length) = some 3 := by decide +kernel
abbrev b_M_forget : ByteArray := prog_2_method_2_code
def y_M_forget : MethodName := ⟨"FatBalance$Mixture", "forget", "()V"⟩
def w_M_forget : List Cond := Cond.code y_M_forget b_M_forget 1 none :: kT
theorem hd_M_forget : y_M_forget.cls ≠ "java/lang/invoke/MethodHandle" ∧ y_M_forget.cls ≠ "java/lang/invoke/VarHandle" ∧ (parseMethodDescriptor y_M_forget.desc).map (fun d => d.parameters.length) = some 0 := by decide +kernel
abbrev b_M_add : ByteArray := prog_2_method_3_code
def y_M_add : MethodName := ⟨"FatBalance$Mixture", "add", "(IJJ)V"⟩
def w_M_add : List Cond := Cond.code y_M_add b_M_add 6 none :: kT
theorem hd_M_add : y_M_add.cls ≠ "java/lang/invoke/MethodHandle" ∧ y_M_add.cls ≠ "java/lang/invoke/VarHandle" ∧ (parseMethodDescriptor y_M_add.desc).map (fun d => d.parameters.length) = some 3 := by decide +kernel
abbrev b_M_search : ByteArray := prog_2_method_7_code
def y_M_search : MethodName := ⟨"FatBalance$Mixture", "search", "(JJ)Z"⟩
def w_M_search : List Cond := Cond.code y_M_search b_M_search 8 (some .boolean) :: kT
theorem hd_M_search : y_M_search.cls ≠ "java/lang/invoke/MethodHandle" ∧ y_M_search.cls ≠ "java/lang/invoke/VarHandle" ∧ (parseMethodDescriptor y_M_search.desc).map (fun d => d.parameters.length) = some 2 := by decide +kernel
abbrev b_M_tryOne : ByteArray := prog_2_method_8_code
def y_M_tryOne : MethodName := ⟨"FatBalance$Mixture", "tryOne", "(I)V"⟩
def w_M_tryOne : List Cond := Cond.code y_M_tryOne b_M_tryOne 2 none :: kT
theorem hd_M_tryOne : y_M_tryOne.cls ≠ "java/lang/invoke/MethodHandle" ∧ y_M_tryOne.cls ≠ "java/lang/invoke/VarHandle" ∧ (parseMethodDescriptor y_M_tryOne.desc).map (fun d => d.parameters.length) = some 1 := by decide +kernel
abbrev b_M_startTrial : ByteArray := prog_2_method_11_code
def y_M_startTrial : MethodName := ⟨"FatBalance$Mixture", "startTrial", "(J)V"⟩
def w_M_startTrial : List Cond := Cond.code y_M_startTrial b_M_startTrial 4 none :: kT
theorem hd_M_startTrial : y_M_startTrial.cls ≠ "java/lang/invoke/MethodHandle" ∧ y_M_startTrial.cls ≠ "java/lang/invoke/VarHandle" ∧ (parseMethodDescriptor y_M_startTrial.desc).map (fun d => d.parameters.length) = some 1 := by decide +kernel
abbrev b_M_keepIfBetter : ByteArray := prog_2_method_12_code
def y_M_keepIfBetter : MethodName := ⟨"FatBalance$Mixture", "keepIfBetter", "()V"⟩
def w_M_keepIfBetter : List Cond := Cond.code y_M_keepIfBetter b_M_keepIfBetter 2 none :: kT
theorem hd_M_keepIfBetter : y_M_keepIfBetter.cls ≠ "java/lang/invoke/MethodHandle" ∧ y_M_keepIfBetter.cls ≠ "java/lang/invoke/VarHandle" ∧ (parseMethodDescriptor y_M_keepIfBetter.desc).map (fun d => d.parameters.length) = some 0 := by decide +kernel
abbrev b_M_isTrialPossible : ByteArray := prog_2_method_13_code
def y_M_isTrialPossible : MethodName := ⟨"FatBalance$Mixture", "isTrialPossible", "()Z"⟩
def w_M_isTrialPossible : List Cond := Cond.code y_M_isTrialPossible b_M_isTrialPossible 2 (some .boolean) :: kT
theorem hd_M_isTrialPossible : y_M_isTrialPossible.cls ≠ "java/lang/invoke/MethodHandle" ∧ y_M_isTrialPossible.cls ≠ "java/lang/invoke/VarHandle" ∧ (parseMethodDescriptor y_M_isTrialPossible.desc).map (fun d => d.parameters.length) = some 0 := by decide +kernel
abbrev b_M_isTrialBetter : ByteArray := prog_2_method_14_code
def y_M_isTrialBetter : MethodName := ⟨"FatBalance$Mixture", "isTrialBetter", "()Z"⟩
def w_M_isTrialBetter : List Cond := Cond.code y_M_isTrialBetter b_M_isTrialBetter 6 (some .boolean) :: kT
theorem hd_M_isTrialBetter : y_M_isTrialBetter.cls ≠ "java/lang/invoke/MethodHandle" ∧ y_M_isTrialBetter.cls ≠ "java/lang/invoke/VarHandle" ∧ (parseMethodDescriptor y_M_isTrialBetter.desc).map (fun d => d.parameters.length) = some 0 := by decide +kernel
abbrev b_M_tryTwo : ByteArray := prog_2_method_9_code
def y_M_tryTwo : MethodName := ⟨"FatBalance$Mixture", "tryTwo", "(II)V"⟩
def w_M_tryTwo : List Cond := Cond.code y_M_tryTwo b_M_tryTwo 5 none :: kT
theorem hd_M_tryTwo : y_M_tryTwo.cls ≠ "java/lang/invoke/MethodHandle" ∧ y_M_tryTwo.cls ≠ "java/lang/invoke/VarHandle" ∧ (parseMethodDescriptor y_M_tryTwo.desc).map (fun d => d.parameters.length) = some 2 := by decide +kernel
abbrev b_M_product : ByteArray := prog_2_method_15_code
def y_M_product : MethodName := ⟨"FatBalance$Mixture", "product", "(III)J"⟩
def w_M_product : List Cond := Cond.code y_M_product b_M_product 4 (some .long) :: kT
theorem hd_M_product : y_M_product.cls ≠ "java/lang/invoke/MethodHandle" ∧ y_M_product.cls ≠ "java/lang/invoke/VarHandle" ∧ (parseMethodDescriptor y_M_product.desc).map (fun d => d.parameters.length) = some 3 := by decide +kernel
abbrev b_M_doubleArea : ByteArray := prog_2_method_16_code
def y_M_doubleArea : MethodName := ⟨"FatBalance$Mixture", "doubleArea", "(III)J"⟩
def w_M_doubleArea : List Cond := Cond.code y_M_doubleArea b_M_doubleArea 4 (some .long) :: kT
theorem hd_M_doubleArea : y_M_doubleArea.cls ≠ "java/lang/invoke/MethodHandle" ∧ y_M_doubleArea.cls ≠ "java/lang/invoke/VarHandle" ∧ (parseMethodDescriptor y_M_doubleArea.desc).map (fun d => d.parameters.length) = some 3 := by decide +kernel
abbrev b_M_tryThree : ByteArray := prog_2_method_10_code
def y_M_tryThree : MethodName := ⟨"FatBalance$Mixture", "tryThree", "(III)V"⟩
def w_M_tryThree : List Cond := Cond.code y_M_tryThree b_M_tryThree 8 none :: kT
theorem hd_M_tryThree : y_M_tryThree.cls ≠ "java/lang/invoke/MethodHandle" ∧ y_M_tryThree.cls ≠ "java/lang/invoke/VarHandle" ∧ (parseMethodDescriptor y_M_tryThree.desc).map (fun d => d.parameters.length) = some 3 := by decide +kernel
abbrev b_X_share : ByteArray := prog_1_method_7_code
def y_X_share : MethodName := ⟨"FatBalance", "share", "(II)J"⟩
def w_X_share : List Cond := Cond.code y_X_share b_X_share 3 (some .long) :: kT
theorem hd_X_share : y_X_share.cls ≠ "java/lang/invoke/MethodHandle" ∧ y_X_share.cls ≠ "java/lang/invoke/VarHandle" ∧ (parseMethodDescriptor y_X_share.desc).map (fun d => d.parameters.length) = some 2 := by decide +kernel
abbrev b_M_isMet : ByteArray := prog_2_method_4_code
def y_M_isMet : MethodName := ⟨"FatBalance$Mixture", "isMet", "()Z"⟩
def w_M_isMet : List Cond := Cond.code y_M_isMet b_M_isMet 1 (some .boolean) :: kT
theorem hd_M_isMet : y_M_isMet.cls ≠ "java/lang/invoke/MethodHandle" ∧ y_M_isMet.cls ≠ "java/lang/invoke/VarHandle" ∧ (parseMethodDescriptor y_M_isMet.desc).map (fun d => d.parameters.length) = some 0 := by decide +kernel
abbrev b_M_aboveOf : ByteArray := prog_2_method_5_code
def y_M_aboveOf : MethodName := ⟨"FatBalance$Mixture", "aboveOf", "(I)J"⟩
def w_M_aboveOf : List Cond := Cond.code y_M_aboveOf b_M_aboveOf 3 (some .long) :: kT
theorem hd_M_aboveOf : y_M_aboveOf.cls ≠ "java/lang/invoke/MethodHandle" ∧ y_M_aboveOf.cls ≠ "java/lang/invoke/VarHandle" ∧ (parseMethodDescriptor y_M_aboveOf.desc).map (fun d => d.parameters.length) = some 1 := by decide +kernel
abbrev b_M_belowOfAll : ByteArray := prog_2_method_6_code
def y_M_belowOfAll : MethodName := ⟨"FatBalance$Mixture", "belowOfAll", "()J"⟩
def w_M_belowOfAll : List Cond := Cond.code y_M_belowOfAll b_M_belowOfAll 1 (some .long) :: kT
theorem hd_M_belowOfAll : y_M_belowOfAll.cls ≠ "java/lang/invoke/MethodHandle" ∧ y_M_belowOfAll.cls ≠ "java/lang/invoke/VarHandle" ∧ (parseMethodDescriptor y_M_belowOfAll.desc).map (fun d => d.parameters.length) = some 0 := by decide +kernel
abbrev b_X_reducedPart : ByteArray := prog_1_method_26_code
def y_X_reducedPart : MethodName := ⟨"FatBalance", "reducedPart", "(JJI)J"⟩
def w_X_reducedPart : List Cond := Cond.code y_X_reducedPart b_X_reducedPart 7 (some .long) :: kT
theorem hd_X_reducedPart : y_X_reducedPart.cls ≠ "java/lang/invoke/MethodHandle" ∧ y_X_reducedPart.cls ≠ "java/lang/invoke/VarHandle" ∧ (parseMethodDescriptor y_X_reducedPart.desc).map (fun d => d.parameters.length) = some 3 := by decide +kernel
abbrev b_X_commonDivisor : ByteArray := prog_1_method_27_code
def y_X_commonDivisor : MethodName := ⟨"FatBalance", "commonDivisor", "(JJ)J"⟩
def w_X_commonDivisor : List Cond := Cond.code y_X_commonDivisor b_X_commonDivisor 11 (some .long) :: kT
theorem hd_X_commonDivisor : y_X_commonDivisor.cls ≠ "java/lang/invoke/MethodHandle" ∧ y_X_commonDivisor.cls ≠ "java/lang/invoke/VarHandle" ∧ (parseMethodDescriptor y_X_commonDivisor.desc).map (fun d => d.parameters.length) = some 2 := by decide +kernel
abbrev b_J_max : ByteArray := prog_6_method_66_code
def y_J_max : MethodName := ⟨"java/lang/Math", "max", "(JJ)J"⟩
def w_J_max : List Cond := Cond.code y_J_max b_J_max 4 (some .long) :: kT
theorem hd_J_max : y_J_max.cls ≠ "java/lang/invoke/MethodHandle" ∧ y_J_max.cls ≠ "java/lang/invoke/VarHandle" ∧ (parseMethodDescriptor y_J_max.desc).map (fun d => d.parameters.length) = some 2 := by decide +kernel
abbrev b_X_yieldOf : ByteArray := prog_1_method_8_code
def y_X_yieldOf : MethodName := ⟨"FatBalance", "yieldOf", "(III)J"⟩
def w_X_yieldOf : List Cond := Cond.code y_X_yieldOf b_X_yieldOf 8 (some .long) :: kT
theorem hd_X_yieldOf : y_X_yieldOf.cls ≠ "java/lang/invoke/MethodHandle" ∧ y_X_yieldOf.cls ≠ "java/lang/invoke/VarHandle" ∧ (parseMethodDescriptor y_X_yieldOf.desc).map (fun d => d.parameters.length) = some 3 := by decide +kernel
abbrev b_X_yieldAbove : ByteArray := prog_1_method_20_code
def y_X_yieldAbove : MethodName := ⟨"FatBalance", "yieldAbove", "(II)J"⟩
def w_X_yieldAbove : List Cond := Cond.code y_X_yieldAbove b_X_yieldAbove 9 (some .long) :: kT
theorem hd_X_yieldAbove : y_X_yieldAbove.cls ≠ "java/lang/invoke/MethodHandle" ∧ y_X_yieldAbove.cls ≠ "java/lang/invoke/VarHandle" ∧ (parseMethodDescriptor y_X_yieldAbove.desc).map (fun d => d.parameters.length) = some 2 := by decide +kernel
abbrev b_X_yieldBelow : ByteArray := prog_1_method_21_code
def y_X_yieldBelow : MethodName := ⟨"FatBalance", "yieldBelow", "(I)J"⟩
def w_X_yieldBelow : List Cond := Cond.code y_X_yieldBelow b_X_yieldBelow 1 (some .long) :: kT
theorem hd_X_yieldBelow : y_X_yieldBelow.cls ≠ "java/lang/invoke/MethodHandle" ∧ y_X_yieldBelow.cls ≠ "java/lang/invoke/VarHandle" ∧ (parseMethodDescriptor y_X_yieldBelow.desc).map (fun d => d.parameters.length) = some 1 := by decide +kernel
abbrev b_X_gramsOf : ByteArray := prog_1_method_25_code
def y_X_gramsOf : MethodName := ⟨"FatBalance", "gramsOf", "(JJ)J"⟩
def w_X_gramsOf : List Cond := Cond.code y_X_gramsOf b_X_gramsOf 4 (some .long) :: kT
theorem hd_X_gramsOf : y_X_gramsOf.cls ≠ "java/lang/invoke/MethodHandle" ∧ y_X_gramsOf.cls ≠ "java/lang/invoke/VarHandle" ∧ (parseMethodDescriptor y_X_gramsOf.desc).map (fun d => d.parameters.length) = some 2 := by decide +kernel
abbrev b_X_loss : ByteArray := prog_1_method_9_code
def y_X_loss : MethodName := ⟨"FatBalance", "loss", "(I)J"⟩
def w_X_loss : List Cond := Cond.code y_X_loss b_X_loss 2 (some .long) :: kT
theorem hd_X_loss : y_X_loss.cls ≠ "java/lang/invoke/MethodHandle" ∧ y_X_loss.cls ≠ "java/lang/invoke/VarHandle" ∧ (parseMethodDescriptor y_X_loss.desc).map (fun d => d.parameters.length) = some 1 := by decide +kernel
abbrev b_X_penalty : ByteArray := prog_1_method_10_code
def y_X_penalty : MethodName := ⟨"FatBalance", "penalty", "(JJ)Z"⟩
def w_X_penalty : List Cond := Cond.code y_X_penalty b_X_penalty 5 (some .boolean) :: kT
theorem hd_X_penalty : y_X_penalty.cls ≠ "java/lang/invoke/MethodHandle" ∧ y_X_penalty.cls ≠ "java/lang/invoke/VarHandle" ∧ (parseMethodDescriptor y_X_penalty.desc).map (fun d => d.parameters.length) = some 2 := by decide +kernel
abbrev b_X_pay : ByteArray := prog_1_method_11_code
def y_X_pay : MethodName := ⟨"FatBalance", "pay", "(I)J"⟩
def w_X_pay : List Cond := Cond.code y_X_pay b_X_pay 5 (some .long) :: kT
theorem hd_X_pay : y_X_pay.cls ≠ "java/lang/invoke/MethodHandle" ∧ y_X_pay.cls ≠ "java/lang/invoke/VarHandle" ∧ (parseMethodDescriptor y_X_pay.desc).map (fun d => d.parameters.length) = some 1 := by decide +kernel
abbrev b_X_hundredthsRoundedUp : ByteArray := prog_1_method_24_code
def y_X_hundredthsRoundedUp : MethodName := ⟨"FatBalance", "hundredthsRoundedUp", "(J)J"⟩
def w_X_hundredthsRoundedUp : List Cond := Cond.code y_X_hundredthsRoundedUp b_X_hundredthsRoundedUp 2 (some .long) :: kT
theorem hd_X_hundredthsRoundedUp : y_X_hundredthsRoundedUp.cls ≠ "java/lang/invoke/MethodHandle" ∧ y_X_hundredthsRoundedUp.cls ≠ "java/lang/invoke/VarHandle" ∧ (parseMethodDescriptor y_X_hundredthsRoundedUp.desc).map (fun d => d.parameters.length) = some 1 := by decide +kernel
abbrev b_X_efficiency : ByteArray := prog_1_method_12_code
def y_X_efficiency : MethodName := ⟨"FatBalance", "efficiency", "(JJJ)Z"⟩
def w_X_efficiency : List Cond := Cond.code y_X_efficiency b_X_efficiency 9 (some .boolean) :: kT
theorem hd_X_efficiency : y_X_efficiency.cls ≠ "java/lang/invoke/MethodHandle" ∧ y_X_efficiency.cls ≠ "java/lang/invoke/VarHandle" ∧ (parseMethodDescriptor y_X_efficiency.desc).map (fun d => d.parameters.length) = some 3 := by decide +kernel
abbrev b_S_put : ByteArray := prog_3_method_2_code
def y_S_put : MethodName := ⟨"FatBalance$Separator", "put", "(JJ)Z"⟩
def w_S_put : List Cond := Cond.code y_S_put b_S_put 7 (some .boolean) :: kT
theorem hd_S_put : y_S_put.cls ≠ "java/lang/invoke/MethodHandle" ∧ y_S_put.cls ≠ "java/lang/invoke/VarHandle" ∧ (parseMethodDescriptor y_S_put.desc).map (fun d => d.parameters.length) = some 2 := by decide +kernel
abbrev b_X_clearChosen : ByteArray := prog_1_method_13_code
def y_X_clearChosen : MethodName := ⟨"FatBalance", "clearChosen", "()V"⟩
def w_X_clearChosen : List Cond := Cond.code y_X_clearChosen b_X_clearChosen 1 none :: kT
theorem hd_X_clearChosen : y_X_clearChosen.cls ≠ "java/lang/invoke/MethodHandle" ∧ y_X_clearChosen.cls ≠ "java/lang/invoke/VarHandle" ∧ (parseMethodDescriptor y_X_clearChosen.desc).map (fun d => d.parameters.length) = some 0 := by decide +kernel
abbrev b_R_init : ByteArray := prog_5_method_1_code
def y_R_init : MethodName := ⟨"FatBalanceModel", "<init>", "()V"⟩
def w_R_init : List Cond := Cond.code y_R_init b_R_init 1 none :: kT
theorem hd_R_init : y_R_init.cls ≠ "java/lang/invoke/MethodHandle" ∧ y_R_init.cls ≠ "java/lang/invoke/VarHandle" ∧ (parseMethodDescriptor y_R_init.desc).map (fun d => d.parameters.length) = some 0 := by decide +kernel
abbrev b_R_lot : ByteArray := prog_5_method_5_code
def y_R_lot : MethodName := ⟨"FatBalanceModel", "lot", "(JJJ)I"⟩
def w_R_lot : List Cond := Cond.code y_R_lot b_R_lot 7 (some .int) :: kT
theorem hd_R_lot : y_R_lot.cls ≠ "java/lang/invoke/MethodHandle" ∧ y_R_lot.cls ≠ "java/lang/invoke/VarHandle" ∧ (parseMethodDescriptor y_R_lot.desc).map (fun d => d.parameters.length) = some 3 := by decide +kernel
abbrev b_R_parts : ByteArray := prog_5_method_3_code
def y_R_parts : MethodName := ⟨"FatBalanceModel", "parts", "(JJ)J"⟩
def w_R_parts : List Cond := Cond.code y_R_parts b_R_parts 5 (some .long) :: kT
theorem hd_R_parts : y_R_parts.cls ≠ "java/lang/invoke/MethodHandle" ∧ y_R_parts.cls ≠ "java/lang/invoke/VarHandle" ∧ (parseMethodDescriptor y_R_parts.desc).map (fun d => d.parameters.length) = some 2 := by decide +kernel
abbrev b_R_put : ByteArray := prog_5_method_4_code
def y_R_put : MethodName := ⟨"FatBalanceModel", "put", "(JJJ)I"⟩
def w_R_put : List Cond := Cond.code y_R_put b_R_put 7 (some .int) :: kT
theorem hd_R_put : y_R_put.cls ≠ "java/lang/invoke/MethodHandle" ∧ y_R_put.cls ≠ "java/lang/invoke/VarHandle" ∧ (parseMethodDescriptor y_R_put.desc).map (fun d => d.parameters.length) = some 3 := by decide +kernel
abbrev b_R_solids : ByteArray := prog_5_method_6_code
def y_R_solids : MethodName := ⟨"FatBalanceModel", "solids", "(IJJ)Z"⟩
def w_R_solids : List Cond := Cond.code y_R_solids b_R_solids 6 (some .boolean) :: kT
theorem hd_R_solids : y_R_solids.cls ≠ "java/lang/invoke/MethodHandle" ∧ y_R_solids.cls ≠ "java/lang/invoke/VarHandle" ∧ (parseMethodDescriptor y_R_solids.desc).map (fun d => d.parameters.length) = some 3 := by decide +kernel
abbrev b_R_isLot : ByteArray := prog_5_method_2_code
def y_R_isLot : MethodName := ⟨"FatBalanceModel", "isLot", "(I)Z"⟩
def w_R_isLot : List Cond := Cond.code y_R_isLot b_R_isLot 2 (some .boolean) :: kT
theorem hd_R_isLot : y_R_isLot.cls ≠ "java/lang/invoke/MethodHandle" ∧ y_R_isLot.cls ≠ "java/lang/invoke/VarHandle" ∧ (parseMethodDescriptor y_R_isLot.desc).map (fun d => d.parameters.length) = some 1 := by decide +kernel
abbrev b_R_separate : ByteArray := prog_5_method_8_code
def y_R_separate : MethodName := ⟨"FatBalanceModel", "separate", "(IJJ)I"⟩
def w_R_separate : List Cond := Cond.code y_R_separate b_R_separate 22 (some .int) :: kT
theorem hd_R_separate : y_R_separate.cls ≠ "java/lang/invoke/MethodHandle" ∧ y_R_separate.cls ≠ "java/lang/invoke/VarHandle" ∧ (parseMethodDescriptor y_R_separate.desc).map (fun d => d.parameters.length) = some 3 := by decide +kernel
abbrev b_R_left : ByteArray := prog_5_method_7_code
def y_R_left : MethodName := ⟨"FatBalanceModel", "left", "(J)J"⟩
def w_R_left : List Cond := Cond.code y_R_left b_R_left 10 (some .long) :: kT
theorem hd_R_left : y_R_left.cls ≠ "java/lang/invoke/MethodHandle" ∧ y_R_left.cls ≠ "java/lang/invoke/VarHandle" ∧ (parseMethodDescriptor y_R_left.desc).map (fun d => d.parameters.length) = some 1 := by decide +kernel
abbrev b_R_choose : ByteArray := prog_5_method_9_code
def y_R_choose : MethodName := ⟨"FatBalanceModel", "choose", "(I)Z"⟩
def w_R_choose : List Cond := Cond.code y_R_choose b_R_choose 4 (some .boolean) :: kT
theorem hd_R_choose : y_R_choose.cls ≠ "java/lang/invoke/MethodHandle" ∧ y_R_choose.cls ≠ "java/lang/invoke/VarHandle" ∧ (parseMethodDescriptor y_R_choose.desc).map (fun d => d.parameters.length) = some 1 := by decide +kernel
abbrev b_R_clearChosen : ByteArray := prog_5_method_10_code
def y_R_clearChosen : MethodName := ⟨"FatBalanceModel", "clearChosen", "()V"⟩
def w_R_clearChosen : List Cond := Cond.code y_R_clearChosen b_R_clearChosen 1 none :: kT
theorem hd_R_clearChosen : y_R_clearChosen.cls ≠ "java/lang/invoke/MethodHandle" ∧ y_R_clearChosen.cls ≠ "java/lang/invoke/VarHandle" ∧ (parseMethodDescriptor y_R_clearChosen.desc).map (fun d => d.parameters.length) = some 0 := by decide +kernel
abbrev b_R_standard : ByteArray := prog_5_method_16_code
def y_R_standard : MethodName := ⟨"FatBalanceModel", "standard", "(JJJ)I"⟩
def w_R_standard : List Cond := Cond.code y_R_standard b_R_standard 14 (some .int) :: kT
theorem hd_R_standard : y_R_standard.cls ≠ "java/lang/invoke/MethodHandle" ∧ y_R_standard.cls ≠ "java/lang/invoke/VarHandle" ∧ (parseMethodDescriptor y_R_standard.desc).map (fun d => d.parameters.length) = some 3 := by decide +kernel
abbrev b_R_clearTrial : ByteArray := prog_5_method_12_code
def y_R_clearTrial : MethodName := ⟨"FatBalanceModel", "clearTrial", "()V"⟩
def w_R_clearTrial : List Cond := Cond.code y_R_clearTrial b_R_clearTrial 2 none :: kT
theorem hd_R_clearTrial : y_R_clearTrial.cls ≠ "java/lang/invoke/MethodHandle" ∧ y_R_clearTrial.cls ≠ "java/lang/invoke/VarHandle" ∧ (parseMethodDescriptor y_R_clearTrial.desc).map (fun d => d.parameters.length) = some 0 := by decide +kernel
abbrev b_R_take : ByteArray := prog_5_method_11_code
def y_R_take : MethodName := ⟨"FatBalanceModel", "take", "(J)V"⟩
def w_R_take : List Cond := Cond.code y_R_take b_R_take 10 none :: kT
theorem hd_R_take : y_R_take.cls ≠ "java/lang/invoke/MethodHandle" ∧ y_R_take.cls ≠ "java/lang/invoke/VarHandle" ∧ (parseMethodDescriptor y_R_take.desc).map (fun d => d.parameters.length) = some 1 := by decide +kernel
abbrev b_R_between : ByteArray := prog_5_method_14_code
def y_R_between : MethodName := ⟨"FatBalanceModel", "between", "(IIJJ)V"⟩
def w_R_between : List Cond := Cond.code y_R_between b_R_between 19 none :: kT
theorem hd_R_between : y_R_between.cls ≠ "java/lang/invoke/MethodHandle" ∧ y_R_between.cls ≠ "java/lang/invoke/VarHandle" ∧ (parseMethodDescriptor y_R_between.desc).map (fun d => d.parameters.length) = some 4 := by decide +kernel
abbrev b_R_cross : ByteArray := prog_5_method_13_code
def y_R_cross : MethodName := ⟨"FatBalanceModel", "cross", "(JJJJ)J"⟩
def w_R_cross : List Cond := Cond.code y_R_cross b_R_cross 8 (some .long) :: kT
theorem hd_R_cross : y_R_cross.cls ≠ "java/lang/invoke/MethodHandle" ∧ y_R_cross.cls ≠ "java/lang/invoke/VarHandle" ∧ (parseMethodDescriptor y_R_cross.desc).map (fun d => d.parameters.length) = some 4 := by decide +kernel
abbrev b_R_inside : ByteArray := prog_5_method_15_code
def y_R_inside : MethodName := ⟨"FatBalanceModel", "inside", "(IIIJJ)V"⟩
def w_R_inside : List Cond := Cond.code y_R_inside b_R_inside 26 none :: kT
theorem hd_R_inside : y_R_inside.cls ≠ "java/lang/invoke/MethodHandle" ∧ y_R_inside.cls ≠ "java/lang/invoke/VarHandle" ∧ (parseMethodDescriptor y_R_inside.desc).map (fun d => d.parameters.length) = some 5 := by decide +kernel
abbrev b_R_share : ByteArray := prog_5_method_18_code
def y_R_share : MethodName := ⟨"FatBalanceModel", "share", "(II)J"⟩
def w_R_share : List Cond := Cond.code y_R_share b_R_share 4 (some .long) :: kT
theorem hd_R_share : y_R_share.cls ≠ "java/lang/invoke/MethodHandle" ∧ y_R_share.cls ≠ "java/lang/invoke/VarHandle" ∧ (parseMethodDescriptor y_R_share.desc).map (fun d => d.parameters.length) = some 2 := by decide +kernel
abbrev b_R_reduced : ByteArray := prog_5_method_17_code
def y_R_reduced : MethodName := ⟨"FatBalanceModel", "reduced", "(JJI)J"⟩
def w_R_reduced : List Cond := Cond.code y_R_reduced b_R_reduced 11 (some .long) :: kT
theorem hd_R_reduced : y_R_reduced.cls ≠ "java/lang/invoke/MethodHandle" ∧ y_R_reduced.cls ≠ "java/lang/invoke/VarHandle" ∧ (parseMethodDescriptor y_R_reduced.desc).map (fun d => d.parameters.length) = some 3 := by decide +kernel
abbrev b_R_yieldOf : ByteArray := prog_5_method_19_code
def y_R_yieldOf : MethodName := ⟨"FatBalanceModel", "yieldOf", "(III)J"⟩
def w_R_yieldOf : List Cond := Cond.code y_R_yieldOf b_R_yieldOf 14 (some .long) :: kT
theorem hd_R_yieldOf : y_R_yieldOf.cls ≠ "java/lang/invoke/MethodHandle" ∧ y_R_yieldOf.cls ≠ "java/lang/invoke/VarHandle" ∧ (parseMethodDescriptor y_R_yieldOf.desc).map (fun d => d.parameters.length) = some 3 := by decide +kernel
abbrev b_R_loss : ByteArray := prog_5_method_20_code
def y_R_loss : MethodName := ⟨"FatBalanceModel", "loss", "(I)J"⟩
def w_R_loss : List Cond := Cond.code y_R_loss b_R_loss 2 (some .long) :: kT
theorem hd_R_loss : y_R_loss.cls ≠ "java/lang/invoke/MethodHandle" ∧ y_R_loss.cls ≠ "java/lang/invoke/VarHandle" ∧ (parseMethodDescriptor y_R_loss.desc).map (fun d => d.parameters.length) = some 1 := by decide +kernel
abbrev b_R_penalty : ByteArray := prog_5_method_21_code
def y_R_penalty : MethodName := ⟨"FatBalanceModel", "penalty", "(JJ)Z"⟩
def w_R_penalty : List Cond := Cond.code y_R_penalty b_R_penalty 5 (some .boolean) :: kT
theorem hd_R_penalty : y_R_penalty.cls ≠ "java/lang/invoke/MethodHandle" ∧ y_R_penalty.cls ≠ "java/lang/invoke/VarHandle" ∧ (parseMethodDescriptor y_R_penalty.desc).map (fun d => d.parameters.length) = some 2 := by decide +kernel
abbrev b_R_pay : ByteArray := prog_5_method_22_code
def y_R_pay : MethodName := ⟨"FatBalanceModel", "pay", "(I)J"⟩
def w_R_pay : List Cond := Cond.code y_R_pay b_R_pay 7 (some .long) :: kT
theorem hd_R_pay : y_R_pay.cls ≠ "java/lang/invoke/MethodHandle" ∧ y_R_pay.cls ≠ "java/lang/invoke/VarHandle" ∧ (parseMethodDescriptor y_R_pay.desc).map (fun d => d.parameters.length) = some 1 := by decide +kernel
abbrev b_R_efficiency : ByteArray := prog_5_method_23_code
def y_R_efficiency : MethodName := ⟨"FatBalanceModel", "efficiency", "(JJJ)Z"⟩
def w_R_efficiency : List Cond := Cond.code y_R_efficiency b_R_efficiency 12 (some .boolean) :: kT
theorem hd_R_efficiency : y_R_efficiency.cls ≠ "java/lang/invoke/MethodHandle" ∧ y_R_efficiency.cls ≠ "java/lang/invoke/VarHandle" ∧ (parseMethodDescriptor y_R_efficiency.desc).map (fun d => d.parameters.length) = some 3 := by decide +kernel
abbrev b_L_law : ByteArray := code
