section
-- ===== PART A: goes FIRST, ahead of the names: the tables' words, and 'selects' of the private methods out of them =====
/-- a private method of a class that the tables say can be made, by its rows of tables_1 -/
def lw_okq (q : MethodName × Nat) : Prop := (q.1.cls ≠ "java/lang/invoke/MethodHandle" ∧ q.1.cls ≠ "java/lang/invoke/VarHandle") ∧ Cond.instantiable q.1.cls q.2 ∈ tables_1 ∧ Cond.privateMethod q.1 ∈ tables_1 ∧ Cond.instanceMethod q.1 ∈ tables_1
theorem lw_p0 : lw_okq (⟨"FatBalance", "addLot", "(JJJ)I"⟩, 14) := ⟨⟨by decide +kernel, by decide +kernel⟩, List.mem_of_getElem? (i := 7) (by decide +kernel), List.mem_of_getElem? (i := 124) (by decide +kernel), List.mem_of_getElem? (i := 125) (by decide +kernel)⟩
theorem lw_p1 : lw_okq (⟨"FatBalance", "isUnseparated", "(I)Z"⟩, 14) := ⟨⟨by decide +kernel, by decide +kernel⟩, List.mem_of_getElem? (i := 7) (by decide +kernel), List.mem_of_getElem? (i := 132) (by decide +kernel), List.mem_of_getElem? (i := 133) (by decide +kernel)⟩
theorem lw_p2 : lw_okq (⟨"FatBalance", "isLot", "(I)Z"⟩, 14) := ⟨⟨by decide +kernel, by decide +kernel⟩, List.mem_of_getElem? (i := 7) (by decide +kernel), List.mem_of_getElem? (i := 136) (by decide +kernel), List.mem_of_getElem? (i := 137) (by decide +kernel)⟩
theorem lw_p3 : lw_okq (⟨"FatBalance$Separator", "firstNotBefore", "(J)I"⟩, 3) := ⟨⟨by decide +kernel, by decide +kernel⟩, List.mem_of_getElem? (i := 15) (by decide +kernel), List.mem_of_getElem? (i := 148) (by decide +kernel), List.mem_of_getElem? (i := 149) (by decide +kernel)⟩
theorem lw_p4 : lw_okq (⟨"FatBalance$Separator", "between", "(IIJ)J"⟩, 3) := ⟨⟨by decide +kernel, by decide +kernel⟩, List.mem_of_getElem? (i := 15) (by decide +kernel), List.mem_of_getElem? (i := 152) (by decide +kernel), List.mem_of_getElem? (i := 153) (by decide +kernel)⟩
theorem lw_p5 : lw_okq (⟨"FatBalance", "split", "(IJJ)I"⟩, 14) := ⟨⟨by decide +kernel, by decide +kernel⟩, List.mem_of_getElem? (i := 7) (by decide +kernel), List.mem_of_getElem? (i := 159) (by decide +kernel), List.mem_of_getElem? (i := 160) (by decide +kernel)⟩
theorem lw_p6 : lw_okq (⟨"FatBalance", "unchoose", "(I)V"⟩, 14) := ⟨⟨by decide +kernel, by decide +kernel⟩, List.mem_of_getElem? (i := 7) (by decide +kernel), List.mem_of_getElem? (i := 163) (by decide +kernel), List.mem_of_getElem? (i := 164) (by decide +kernel)⟩
theorem lw_p7 : lw_okq (⟨"FatBalance", "placeAmongChosen", "(I)I"⟩, 14) := ⟨⟨by decide +kernel, by decide +kernel⟩, List.mem_of_getElem? (i := 7) (by decide +kernel), List.mem_of_getElem? (i := 167) (by decide +kernel), List.mem_of_getElem? (i := 168) (by decide +kernel)⟩
theorem lw_p8 : lw_okq (⟨"FatBalance$Mixture", "tryOne", "(I)V"⟩, 9) := ⟨⟨by decide +kernel, by decide +kernel⟩, List.mem_of_getElem? (i := 34) (by decide +kernel), List.mem_of_getElem? (i := 191) (by decide +kernel), List.mem_of_getElem? (i := 192) (by decide +kernel)⟩
theorem lw_p9 : lw_okq (⟨"FatBalance$Mixture", "startTrial", "(J)V"⟩, 9) := ⟨⟨by decide +kernel, by decide +kernel⟩, List.mem_of_getElem? (i := 34) (by decide +kernel), List.mem_of_getElem? (i := 195) (by decide +kernel), List.mem_of_getElem? (i := 196) (by decide +kernel)⟩
theorem lw_p10 : lw_okq (⟨"FatBalance$Mixture", "keepIfBetter", "()V"⟩, 9) := ⟨⟨by decide +kernel, by decide +kernel⟩, List.mem_of_getElem? (i := 34) (by decide +kernel), List.mem_of_getElem? (i := 199) (by decide +kernel), List.mem_of_getElem? (i := 200) (by decide +kernel)⟩
theorem lw_p11 : lw_okq (⟨"FatBalance$Mixture", "isTrialPossible", "()Z"⟩, 9) := ⟨⟨by decide +kernel, by decide +kernel⟩, List.mem_of_getElem? (i := 34) (by decide +kernel), List.mem_of_getElem? (i := 203) (by decide +kernel), List.mem_of_getElem? (i := 204) (by decide +kernel)⟩
theorem lw_p12 : lw_okq (⟨"FatBalance$Mixture", "isTrialBetter", "()Z"⟩, 9) := ⟨⟨by decide +kernel, by decide +kernel⟩, List.mem_of_getElem? (i := 34) (by decide +kernel), List.mem_of_getElem? (i := 207) (by decide +kernel), List.mem_of_getElem? (i := 208) (by decide +kernel)⟩
theorem lw_p13 : lw_okq (⟨"FatBalance$Mixture", "tryTwo", "(II)V"⟩, 9) := ⟨⟨by decide +kernel, by decide +kernel⟩, List.mem_of_getElem? (i := 34) (by decide +kernel), List.mem_of_getElem? (i := 211) (by decide +kernel), List.mem_of_getElem? (i := 212) (by decide +kernel)⟩
theorem lw_p14 : lw_okq (⟨"FatBalance$Mixture", "product", "(III)J"⟩, 9) := ⟨⟨by decide +kernel, by decide +kernel⟩, List.mem_of_getElem? (i := 34) (by decide +kernel), List.mem_of_getElem? (i := 215) (by decide +kernel), List.mem_of_getElem? (i := 216) (by decide +kernel)⟩
theorem lw_p15 : lw_okq (⟨"FatBalance$Mixture", "doubleArea", "(III)J"⟩, 9) := ⟨⟨by decide +kernel, by decide +kernel⟩, List.mem_of_getElem? (i := 34) (by decide +kernel), List.mem_of_getElem? (i := 219) (by decide +kernel), List.mem_of_getElem? (i := 220) (by decide +kernel)⟩
def lw_privs_1 : List (MethodName × Nat) := [(⟨"FatBalance", "addLot", "(JJJ)I"⟩, 14), (⟨"FatBalance", "isUnseparated", "(I)Z"⟩, 14), (⟨"FatBalance", "isLot", "(I)Z"⟩, 14), (⟨"FatBalance$Separator", "firstNotBefore", "(J)I"⟩, 3), (⟨"FatBalance$Separator", "between", "(IIJ)J"⟩, 3), (⟨"FatBalance", "split", "(IJJ)I"⟩, 14), (⟨"FatBalance", "unchoose", "(I)V"⟩, 14), (⟨"FatBalance", "placeAmongChosen", "(I)I"⟩, 14), (⟨"FatBalance$Mixture", "tryOne", "(I)V"⟩, 9), (⟨"FatBalance$Mixture", "startTrial", "(J)V"⟩, 9), (⟨"FatBalance$Mixture", "keepIfBetter", "()V"⟩, 9), (⟨"FatBalance$Mixture", "isTrialPossible", "()Z"⟩, 9), (⟨"FatBalance$Mixture", "isTrialBetter", "()Z"⟩, 9), (⟨"FatBalance$Mixture", "tryTwo", "(II)V"⟩, 9), (⟨"FatBalance$Mixture", "product", "(III)J"⟩, 9), (⟨"FatBalance$Mixture", "doubleArea", "(III)J"⟩, 9)]
theorem lw_r1 : ∀ q ∈ lw_privs_1, lw_okq q := List.forall_mem_cons.mpr ⟨lw_p0, List.forall_mem_cons.mpr ⟨lw_p1, List.forall_mem_cons.mpr ⟨lw_p2, List.forall_mem_cons.mpr ⟨lw_p3, List.forall_mem_cons.mpr ⟨lw_p4, List.forall_mem_cons.mpr ⟨lw_p5, List.forall_mem_cons.mpr ⟨lw_p6, List.forall_mem_cons.mpr ⟨lw_p7, List.forall_mem_cons.mpr ⟨lw_p8, List.forall_mem_cons.mpr ⟨lw_p9, List.forall_mem_cons.mpr ⟨lw_p10, List.forall_mem_cons.mpr ⟨lw_p11, List.forall_mem_cons.mpr ⟨lw_p12, List.forall_mem_cons.mpr ⟨lw_p13, List.forall_mem_cons.mpr ⟨lw_p14, List.forall_mem_cons.mpr ⟨lw_p15, fun _ h => absurd h List.not_mem_nil⟩⟩⟩⟩⟩⟩⟩⟩⟩⟩⟩⟩⟩⟩⟩⟩
theorem lw_p16 : lw_okq (⟨"FatBalance$Mixture", "tryThree", "(III)V"⟩, 9) := ⟨⟨by decide +kernel, by decide +kernel⟩, List.mem_of_getElem? (i := 34) (by decide +kernel), List.mem_of_getElem? (i := 223) (by decide +kernel), List.mem_of_getElem? (i := 224) (by decide +kernel)⟩
theorem lw_p17 : lw_okq (⟨"FatBalance", "yieldAbove", "(II)J"⟩, 14) := ⟨⟨by decide +kernel, by decide +kernel⟩, List.mem_of_getElem? (i := 7) (by decide +kernel), List.mem_of_getElem? (i := 258) (by decide +kernel), List.mem_of_getElem? (i := 259) (by decide +kernel)⟩
theorem lw_p18 : lw_okq (⟨"FatBalanceModel", "put", "(JJJ)I"⟩, 21) := ⟨⟨by decide +kernel, by decide +kernel⟩, List.mem_of_getElem? (i := 307) (by decide +kernel), List.mem_of_getElem? (i := 387) (by decide +kernel), List.mem_of_getElem? (i := 388) (by decide +kernel)⟩
theorem lw_p19 : lw_okq (⟨"FatBalanceModel", "isLot", "(I)Z"⟩, 21) := ⟨⟨by decide +kernel, by decide +kernel⟩, List.mem_of_getElem? (i := 307) (by decide +kernel), List.mem_of_getElem? (i := 395) (by decide +kernel), List.mem_of_getElem? (i := 396) (by decide +kernel)⟩
theorem lw_p20 : lw_okq (⟨"FatBalanceModel", "left", "(J)J"⟩, 21) := ⟨⟨by decide +kernel, by decide +kernel⟩, List.mem_of_getElem? (i := 307) (by decide +kernel), List.mem_of_getElem? (i := 403) (by decide +kernel), List.mem_of_getElem? (i := 404) (by decide +kernel)⟩
theorem lw_p21 : lw_okq (⟨"FatBalanceModel", "clearTrial", "()V"⟩, 21) := ⟨⟨by decide +kernel, by decide +kernel⟩, List.mem_of_getElem? (i := 307) (by decide +kernel), List.mem_of_getElem? (i := 419) (by decide +kernel), List.mem_of_getElem? (i := 420) (by decide +kernel)⟩
theorem lw_p22 : lw_okq (⟨"FatBalanceModel", "take", "(J)V"⟩, 21) := ⟨⟨by decide +kernel, by decide +kernel⟩, List.mem_of_getElem? (i := 307) (by decide +kernel), List.mem_of_getElem? (i := 423) (by decide +kernel), List.mem_of_getElem? (i := 424) (by decide +kernel)⟩
theorem lw_p23 : lw_okq (⟨"FatBalanceModel", "between", "(IIJJ)V"⟩, 21) := ⟨⟨by decide +kernel, by decide +kernel⟩, List.mem_of_getElem? (i := 307) (by decide +kernel), List.mem_of_getElem? (i := 427) (by decide +kernel), List.mem_of_getElem? (i := 428) (by decide +kernel)⟩
theorem lw_p24 : lw_okq (⟨"FatBalanceModel", "inside", "(IIIJJ)V"⟩, 21) := ⟨⟨by decide +kernel, by decide +kernel⟩, List.mem_of_getElem? (i := 307) (by decide +kernel), List.mem_of_getElem? (i := 434) (by decide +kernel), List.mem_of_getElem? (i := 435) (by decide +kernel)⟩
def lw_privs_2 : List (MethodName × Nat) := [(⟨"FatBalance$Mixture", "tryThree", "(III)V"⟩, 9), (⟨"FatBalance", "yieldAbove", "(II)J"⟩, 14), (⟨"FatBalanceModel", "put", "(JJJ)I"⟩, 21), (⟨"FatBalanceModel", "isLot", "(I)Z"⟩, 21), (⟨"FatBalanceModel", "left", "(J)J"⟩, 21), (⟨"FatBalanceModel", "clearTrial", "()V"⟩, 21), (⟨"FatBalanceModel", "take", "(J)V"⟩, 21), (⟨"FatBalanceModel", "between", "(IIJJ)V"⟩, 21), (⟨"FatBalanceModel", "inside", "(IIIJJ)V"⟩, 21)]
theorem lw_r2 : ∀ q ∈ lw_privs_2, lw_okq q := List.forall_mem_cons.mpr ⟨lw_p16, List.forall_mem_cons.mpr ⟨lw_p17, List.forall_mem_cons.mpr ⟨lw_p18, List.forall_mem_cons.mpr ⟨lw_p19, List.forall_mem_cons.mpr ⟨lw_p20, List.forall_mem_cons.mpr ⟨lw_p21, List.forall_mem_cons.mpr ⟨lw_p22, List.forall_mem_cons.mpr ⟨lw_p23, List.forall_mem_cons.mpr ⟨lw_p24, fun _ h => absurd h List.not_mem_nil⟩⟩⟩⟩⟩⟩⟩⟩⟩
def lw_privs : List (MethodName × Nat) := lw_privs_1 ++ (lw_privs_2)
def lw_tbl : List Cond := k2_sels lw_privs ++ tables_1
theorem lw_privs_ok : ∀ q ∈ lw_privs, lw_okq q := by
  show ∀ q ∈ lw_privs_1 ++ (lw_privs_2), lw_okq q
  exact List.forall_mem_append.mpr ⟨lw_r1, lw_r2⟩
/-! names: classes, their fields in the order of the slots, methods, words -/
def kT : List Cond := lw_tbl.filter goodWord
theorem kT_in {w : Cond} (h : w ∈ lw_tbl) (g : goodWord w = true) : w ∈ kT := List.mem_filter.mpr ⟨h, g⟩
theorem kT_p {w : Cond} {i : Nat} (h : (k2_sels lw_privs)[i]? = some w) (g : goodWord w = true) : w ∈ kT := kT_in (List.mem_append_left _ (List.mem_of_getElem? h)) g
theorem kT_1 {w : Cond} {i : Nat} (h : tables_1_1[i]? = some w) (g : goodWord w = true) : w ∈ kT := kT_in (List.mem_append_right _ (List.mem_append_left _ (List.mem_of_getElem? h))) g
theorem kT_2 {w : Cond} {i : Nat} (h : tables_1_2[i]? = some w) (g : goodWord w = true) : w ∈ kT := kT_in (List.mem_append_right _ (List.mem_append_right _ (List.mem_of_getElem? h))) g
theorem kT_good {w : Cond} (h : w ∈ kT) : GoodIn kT (w :: kT) := fun v hv => by
  have hm : v ∈ kT := (List.mem_cons.mp hv).elim (fun e => e ▸ h) id
  exact ⟨hm, good_of_word (List.mem_filter.mp hm).2⟩
abbrev R_X : String := "FatBalance"
def T_X : u_T := fun k => match k with
  | 0 => ("FatBalance", "kilograms", "[J", true)
  | 1 => ("FatBalance", "fatParts", "[J", true)
  | 2 => ("FatBalance", "solidParts", "[J", true)
  | 3 => ("FatBalance", "separated", "[Z", true)
  | 4 => ("FatBalance", "lotCount", "I", false)
  | 5 => ("FatBalance", "lost", "[J", true)
  | 6 => ("FatBalance", "separationCount", "I", false)
  | 7 => ("FatBalance", "penaltyFrom", "[J", true)
  | 8 => ("FatBalance", "penaltyCents", "[J", true)
  | 9 => ("FatBalance", "penaltyCount", "I", false)
  | 10 => ("FatBalance", "chosen", "[I", true)
  | 11 => ("FatBalance", "chosenCount", "I", false)
  | 12 => ("FatBalance", "separator", "LFatBalance$Separator;", true)
  | _ => ("FatBalance", "mixture", "LFatBalance$Mixture;", true)
def t_X : Nat → FieldType := fun k => match k with
  | 0 => .array .long
  | 1 => .array .long
  | 2 => .array .long
  | 3 => .array .boolean
  | 4 => .int
  | 5 => .array .long
  | 6 => .int
  | 7 => .array .long
  | 8 => .array .long
  | 9 => .int
  | 10 => .array .int
  | 11 => .int
  | 12 => .object "FatBalance$Separator"
  | _ => .object "FatBalance$Mixture"
theorem n_X : ∀ a, a < 14 → ∀ b, b < 14 → a ≠ b → (T_X a).2.1 ≠ (T_X b).2.1 := by decide +kernel
theorem t_X_ok : ∀ k, k < 14 → parseFieldDescriptor (T_X k).2.2.1 = some (t_X k) := by decide +kernel
set_option maxRecDepth 20000 in
theorem iT0_X : ∀ w ∈ u_ws R_X T_X 14, w ∈ lw_tbl := by decide +kernel
theorem iT_X : ∀ w ∈ u_ws R_X T_X 14, w ∈ kT := fun w h => kT_in (iT0_X w h) ((by decide +kernel : ∀ w ∈ u_ws R_X T_X 14, goodWord w = true) w h)
abbrev R_M : String := "FatBalance$Mixture"
def T_M : u_T := fun k => match k with
  | 0 => ("FatBalance$Mixture", "lots", "[I", true)
  | 1 => ("FatBalance$Mixture", "count", "I", false)
  | 2 => ("FatBalance$Mixture", "fats", "[J", true)
  | 3 => ("FatBalance$Mixture", "solidsOfPoints", "[J", true)
  | 4 => ("FatBalance$Mixture", "trial", "[J", true)
  | 5 => ("FatBalance$Mixture", "trialBelow", "J", false)
  | 6 => ("FatBalance$Mixture", "best", "[J", true)
  | 7 => ("FatBalance$Mixture", "bestBelow", "J", false)
  | _ => ("FatBalance$Mixture", "met", "Z", false)
def t_M : Nat → FieldType := fun k => match k with
  | 0 => .array .int
  | 1 => .int
  | 2 => .array .long
  | 3 => .array .long
  | 4 => .array .long
  | 5 => .long
  | 6 => .array .long
  | 7 => .long
  | _ => .boolean
theorem n_M : ∀ a, a < 9 → ∀ b, b < 9 → a ≠ b → (T_M a).2.1 ≠ (T_M b).2.1 := by decide +kernel
theorem t_M_ok : ∀ k, k < 9 → parseFieldDescriptor (T_M k).2.2.1 = some (t_M k) := by decide +kernel
set_option maxRecDepth 20000 in
theorem iT0_M : ∀ w ∈ u_ws R_M T_M 9, w ∈ lw_tbl := by decide +kernel
theorem iT_M : ∀ w ∈ u_ws R_M T_M 9, w ∈ kT := fun w h => kT_in (iT0_M w h) ((by decide +kernel : ∀ w ∈ u_ws R_M T_M 9, goodWord w = true) w h)
abbrev R_S : String := "FatBalance$Separator"
def T_S : u_T := fun k => match k with
  | 0 => ("FatBalance$Separator", "rowAt", "[J", true)
  | 1 => ("FatBalance$Separator", "rowFat", "[J", true)
  | _ => ("FatBalance$Separator", "rowCount", "I", false)
def t_S : Nat → FieldType := fun k => match k with
  | 0 => .array .long
  | 1 => .array .long
  | _ => .int
theorem n_S : ∀ a, a < 3 → ∀ b, b < 3 → a ≠ b → (T_S a).2.1 ≠ (T_S b).2.1 := by decide +kernel
theorem t_S_ok : ∀ k, k < 3 → parseFieldDescriptor (T_S k).2.2.1 = some (t_S k) := by decide +kernel
set_option maxRecDepth 20000 in
theorem iT0_S : ∀ w ∈ u_ws R_S T_S 3, w ∈ lw_tbl := by decide +kernel
theorem iT_S : ∀ w ∈ u_ws R_S T_S 3, w ∈ kT := fun w h => kT_in (iT0_S w h) ((by decide +kernel : ∀ w ∈ u_ws R_S T_S 3, goodWord w = true) w h)
abbrev R_R : String := "FatBalanceModel"
def T_R : u_T := fun k => match k with
  | 0 => ("FatBalanceModel", "kilos", "[J", true)
  | 1 => ("FatBalanceModel", "fats", "[J", true)
  | 2 => ("FatBalanceModel", "solids", "[J", true)
  | 3 => ("FatBalanceModel", "parted", "[Z", true)
  | 4 => ("FatBalanceModel", "lots", "I", false)
  | 5 => ("FatBalanceModel", "losses", "[J", true)
  | 6 => ("FatBalanceModel", "separations", "I", false)
  | 7 => ("FatBalanceModel", "chosen", "[I", true)
  | 8 => ("FatBalanceModel", "count", "I", false)
  | 9 => ("FatBalanceModel", "rowAt", "[J", true)
  | 10 => ("FatBalanceModel", "rowFat", "[J", true)
  | 11 => ("FatBalanceModel", "rows", "I", false)
  | 12 => ("FatBalanceModel", "penaltyFrom", "[J", true)
  | 13 => ("FatBalanceModel", "penaltyCents", "[J", true)
  | 14 => ("FatBalanceModel", "penalties", "I", false)
  | 15 => ("FatBalanceModel", "met", "Z", false)
  | 16 => ("FatBalanceModel", "metLots", "[I", true)
  | 17 => ("FatBalanceModel", "metAbove", "[J", true)
  | 18 => ("FatBalanceModel", "metBelow", "J", false)
  | 19 => ("FatBalanceModel", "metCount", "I", false)
  | _ => ("FatBalanceModel", "trial", "[J", true)
def t_R : Nat → FieldType := fun k => match k with
  | 0 => .array .long
  | 1 => .array .long
  | 2 => .array .long
  | 3 => .array .boolean
  | 4 => .int
  | 5 => .array .long
  | 6 => .int
  | 7 => .array .int
  | 8 => .int
  | 9 => .array .long
  | 10 => .array .long
  | 11 => .int
  | 12 => .array .long
  | 13 => .array .long
  | 14 => .int
  | 15 => .boolean
  | 16 => .array .int
  | 17 => .array .long
  | 18 => .long
  | 19 => .int
  | _ => .array .long
theorem n_R : ∀ a, a < 21 → ∀ b, b < 21 → a ≠ b → (T_R a).2.1 ≠ (T_R b).2.1 := by decide +kernel
theorem t_R_ok : ∀ k, k < 21 → parseFieldDescriptor (T_R k).2.2.1 = some (t_R k) := by decide +kernel
set_option maxRecDepth 20000 in
theorem iT0_R : ∀ w ∈ u_ws R_R T_R 21, w ∈ lw_tbl := by decide +kernel
theorem iT_R : ∀ w ∈ u_ws R_R T_R 21, w ∈ kT := fun w h => kT_in (iT0_R w h) ((by decide +kernel : ∀ w ∈ u_ws R_R T_R 21, goodWord w = true) w h)
abbrev R_L : String := "FatBalanceLaw"
abbrev R_J : String := "java/lang/Math"
abbrev vwCl : List vw_C := [(R_X, T_X, 14), (R_M, T_M, 9), (R_S, T_S, 3), (R_R, T_R, 21)]
abbrev b_X_init : ByteArray := prog_1_method_1_code
def y_X_init : MethodName := ⟨"FatBalance", "<init>", "()V"⟩
def w_X_init : List Cond := Cond.code y_X_init b_X_init 1 none :: kT
theorem hd_X_init : y_X_init.cls ≠ "java/lang/invoke/MethodHandle" ∧ y_X_init.cls ≠ "java/lang/invoke/VarHandle" ∧ (parseMethodDescriptor y_X_init.desc).map (fun d => d.parameters.length) = some 0 := by decide +kernel
abbrev b_S_init : ByteArray := prog_3_method_1_code
def y_S_init : MethodName := ⟨"FatBalance$Separator", "<init>", "()V"⟩
def w_S_init : List Cond := Cond.code y_S_init b_S_init 1 none :: kT
theorem hd_S_init : y_S_init.cls ≠ "java/lang/invoke/MethodHandle" ∧ y_S_init.cls ≠ "java/lang/invoke/VarHandle" ∧ (parseMethodDescriptor y_S_init.desc).map (fun d => d.parameters.length) = some 0 := by decide +kernel
abbrev b_M_init : ByteArray := prog_2_method_1_code
def y_M_init : MethodName := ⟨"FatBalance$Mixture", "<init>", "()V"⟩
def w_M_init : List Cond := Cond.code y_M_init b_M_init 1 none :: kT
theorem hd_M_init : y_M_init.cls ≠ "java/lang/invoke/MethodHandle" ∧ y_M_init.cls ≠ "java/lang/invoke/VarHandle" ∧ (parseMethodDescriptor y_M_init.desc).map (fun d => d.parameters.length) = some 0 := by decide +kernel
abbrev b_X_lot : ByteArray := prog_1_method_2_code
def y_X_lot : MethodName := ⟨"FatBalance", "lot", "(JJJ)I"⟩
def w_X_lot : List Cond := Cond.code y_X_lot b_X_lot 9 (some .int) :: kT
theorem hd_X_lot : y_X_lot.cls ≠ "java/lang/invoke/MethodHandle" ∧ y_X_lot.cls ≠ "java/lang/invoke/VarHandle" ∧ (parseMethodDescriptor y_X_lot.desc).map (fun d => d.parameters.length) = some 3 := by decide +kernel
abbrev b_X_wholeParts : ByteArray := prog_1_method_23_code
def y_X_wholeParts : MethodName := ⟨"FatBalance", "wholeParts", "(JJ)J"⟩
def w_X_wholeParts : List Cond := Cond.code y_X_wholeParts b_X_wholeParts 6 (some .long) :: kT
theorem hd_X_wholeParts : y_X_wholeParts.cls ≠ "java/lang/invoke/MethodHandle" ∧ y_X_wholeParts.cls ≠ "java/lang/invoke/VarHandle" ∧ (parseMethodDescriptor y_X_wholeParts.desc).map (fun d => d.parameters.length) = some 2 := by decide +kernel
abbrev b_X_isWithin : ByteArray := prog_1_method_22_code
def y_X_isWithin : MethodName := ⟨"FatBalance", "isWithin", "(JJJ)Z"⟩
def w_X_isWithin : List Cond := Cond.code y_X_isWithin b_X_isWithin 6 (some .boolean) :: kT
theorem hd_X_isWithin : y_X_isWithin.cls ≠ "java/lang/invoke/MethodHandle" ∧ y_X_isWithin.cls ≠ "java/lang/invoke/VarHandle" ∧ (parseMethodDescriptor y_X_isWithin.desc).map (fun d => d.parameters.length) = some 3 := by decide +kernel
abbrev b_X_addLot : ByteArray := prog_1_method_16_code
def y_X_addLot : MethodName := ⟨"FatBalance", "addLot", "(JJJ)I"⟩
def w_X_addLot : List Cond := Cond.code y_X_addLot b_X_addLot 8 (some .int) :: kT
theorem hd_X_addLot : y_X_addLot.cls ≠ "java/lang/invoke/MethodHandle" ∧ y_X_addLot.cls ≠ "java/lang/invoke/VarHandle" ∧ (parseMethodDescriptor y_X_addLot.desc).map (fun d => d.parameters.length) = some 3 := by decide +kernel
abbrev b_X_solids : ByteArray := prog_1_method_3_code
def y_X_solids : MethodName := ⟨"FatBalance", "solids", "(IJJ)Z"⟩
def w_X_solids : List Cond := Cond.code y_X_solids b_X_solids 8 (some .boolean) :: kT
theorem hd_X_solids : y_X_solids.cls ≠ "java/lang/invoke/MethodHandle" ∧ y_X_solids.cls ≠ "java/lang/invoke/VarHandle" ∧ (parseMethodDescriptor y_X_solids.desc).map (fun d => d.parameters.length) = some 3 := by decide +kernel
abbrev b_X_isUnseparated : ByteArray := prog_1_method_15_code
def y_X_isUnseparated : MethodName := ⟨"FatBalance", "isUnseparated", "(I)Z"⟩
def w_X_isUnseparated : List Cond := Cond.code y_X_isUnseparated b_X_isUnseparated 2 (some .boolean) :: kT
theorem hd_X_isUnseparated : y_X_isUnseparated.cls ≠ "java/lang/invoke/MethodHandle" ∧ y_X_isUnseparated.cls ≠ "java/lang/invoke/VarHandle" ∧ (parseMethodDescriptor y_X_isUnseparated.desc).map (fun d => d.parameters.length) = some 1 := by decide +kernel
abbrev b_X_isLot : ByteArray := prog_1_method_14_code
def y_X_isLot : MethodName := ⟨"FatBalance", "isLot", "(I)Z"⟩
def w_X_isLot : List Cond := Cond.code y_X_isLot b_X_isLot 2 (some .boolean) :: kT
theorem hd_X_isLot : y_X_isLot.cls ≠ "java/lang/invoke/MethodHandle" ∧ y_X_isLot.cls ≠ "java/lang/invoke/VarHandle" ∧ (parseMethodDescriptor y_X_isLot.desc).map (fun d => d.parameters.length) = some 1 := by decide +kernel
abbrev b_X_separate : ByteArray := prog_1_method_4_code
def y_X_separate : MethodName := ⟨"FatBalance", "separate", "(IJJ)I"⟩
def w_X_separate : List Cond := Cond.code y_X_separate b_X_separate 10 (some .int) :: kT
theorem hd_X_separate : y_X_separate.cls ≠ "java/lang/invoke/MethodHandle" ∧ y_X_separate.cls ≠ "java/lang/invoke/VarHandle" ∧ (parseMethodDescriptor y_X_separate.desc).map (fun d => d.parameters.length) = some 3 := by decide +kernel
abbrev b_S_skimFatAt : ByteArray := prog_3_method_3_code
def y_S_skimFatAt : MethodName := ⟨"FatBalance$Separator", "skimFatAt", "(J)J"⟩
def w_S_skimFatAt : List Cond := Cond.code y_S_skimFatAt b_S_skimFatAt 4 (some .long) :: kT
theorem hd_S_skimFatAt : y_S_skimFatAt.cls ≠ "java/lang/invoke/MethodHandle" ∧ y_S_skimFatAt.cls ≠ "java/lang/invoke/VarHandle" ∧ (parseMethodDescriptor y_S_skimFatAt.desc).map (fun d => d.parameters.length) = some 1 := by decide +kernel
abbrev b_S_firstNotBefore : ByteArray := prog_3_method_5_code
def y_S_firstNotBefore : MethodName := ⟨"FatBalance$Separator", "firstNotBefore", "(J)I"⟩
def w_S_firstNotBefore : List Cond := Cond.code y_S_firstNotBefore b_S_firstNotBefore 4 (some .int) :: kT
theorem hd_S_firstNotBefore : y_S_firstNotBefore.cls ≠ "java/lang/invoke/MethodHandle" ∧ y_S_firstNotBefore.cls ≠ "java/lang/invoke/VarHandle" ∧ (parseMethodDescriptor y_S_firstNotBefore.desc).map (fun d => d.parameters.length) = some 1 := by decide +kernel
abbrev b_S_between : ByteArray := prog_3_method_4_code
def y_S_between : MethodName := ⟨"FatBalance$Separator", "between", "(IIJ)J"⟩
def w_S_between : List Cond := Cond.code y_S_between b_S_between 7 (some .long) :: kT
theorem hd_S_between : y_S_between.cls ≠ "java/lang/invoke/MethodHandle" ∧ y_S_between.cls ≠ "java/lang/invoke/VarHandle" ∧ (parseMethodDescriptor y_S_between.desc).map (fun d => d.parameters.length) = some 3 := by decide +kernel
abbrev b_J_floorDiv : ByteArray := prog_6_method_49_code
def y_J_floorDiv : MethodName := ⟨"java/lang/Math", "floorDiv", "(JJ)J"⟩
def w_J_floorDiv : List Cond := Cond.code y_J_floorDiv b_J_floorDiv 6 (some .long) :: kT
theorem hd_J_floorDiv : y_J_floorDiv.cls ≠ "java/lang/invoke/MethodHandle" ∧ y_J_floorDiv.cls ≠ "java/lang/invoke/VarHandle" ∧ (parseMethodDescriptor y_J_floorDiv.desc).map (fun d => d.parameters.length) = some 2 := by decide +kernel
abbrev b_X_split : ByteArray := prog_1_method_17_code
def y_X_split : MethodName := ⟨"FatBalance", "split", "(IJJ)I"⟩
def w_X_split : List Cond := Cond.code y_X_split b_X_split 15 (some .int) :: kT
theorem hd_X_split : y_X_split.cls ≠ "java/lang/invoke/MethodHandle" ∧ y_X_split.cls ≠ "java/lang/invoke/VarHandle" ∧ (parseMethodDescriptor y_X_split.desc).map (fun d => d.parameters.length) = some 3 := by decide +kernel
abbrev b_X_unchoose : ByteArray := prog_1_method_19_code
def y_X_unchoose : MethodName := ⟨"FatBalance", "unchoose", "(I)V"⟩
def w_X_unchoose : List Cond := Cond.code y_X_unchoose b_X_unchoose 4 none :: kT
theorem hd_X_unchoose : y_X_unchoose.cls ≠ "java/lang/invoke/MethodHandle" ∧ y_X_unchoose.cls ≠ "java/lang/invoke/VarHandle" ∧ (parseMethodDescriptor y_X_unchoose.desc).map (fun d => d.parameters.length) = some 1 := by decide +kernel
abbrev b_X_placeAmongChosen : ByteArray := prog_1_method_18_code
def y_X_placeAmongChosen : MethodName := ⟨"FatBalance", "placeAmongChosen", "(I)I"⟩
def w_X_placeAmongChosen : List Cond := Cond.code y_X_placeAmongChosen b_X_placeAmongChosen 3 (some .int) :: kT
theorem hd_X_placeAmongChosen : y_X_placeAmongChosen.cls ≠ "java/lang/invoke/MethodHandle" ∧ y_X_placeAmongChosen.cls ≠ "java/lang/invoke/VarHandle" ∧ (parseMethodDescriptor y_X_placeAmongChosen.desc).map (fun d => d.parameters.length) = some 1 := by decide +kernel
abbrev b_X_choose : ByteArray := prog_1_method_5_code
def y_X_choose : MethodName := ⟨"FatBalance", "choose", "(I)Z"⟩
def w_X_choose : List Cond := Cond.code y_X_choose b_X_choose 2 (some .boolean) :: kT
theorem hd_X_choose : y_X_choose.cls ≠ "java/lang/invoke/MethodHandle" ∧ y_X_choose.cls ≠ "java/lang/invoke/VarHandle" ∧ (parseMethodDescriptor y_X_choose.desc).map (fun d => d.parameters.length) = some 1 := by decide +kernel
abbrev b_X_standard : ByteArray := prog_1_method_6_code
def y_X_standard : MethodName := ⟨"FatBalance", "standard", "(JJJ)I"⟩
def w_X_standard : List Cond := Cond.code y_X_standard b_X_standard 13 (some .int) :: kT
theorem hd_X_standard : y_X_standard.cls ≠ "java/lang/invoke/MethodHandle" ∧ y_X_standard.cls ≠ "java/lang/invoke/VarHandle" ∧ (parseMethodDescriptor y_X_standard.desc).map (fun d => d.parameters.length) = some 3 := by decide +kernel
abbrev b_M_forget : ByteArray := prog_2_method_2_code
def y_M_forget : MethodName := ⟨"FatBalance$Mixture", "forget", "()V"⟩
def w_M_forget : List Cond := Cond.code y_M_forget b_M_forget 1 none :: kT
theorem hd_M_forget : y_M_forget.cls ≠ "java/lang/invoke/MethodHandle" ∧ y_M_forget.cls ≠ "java/lang/invoke/VarHandle" ∧ (parseMethodDescriptor y_M_forget.desc).map (fun d => d.parameters.length) = some 0 := by decide +kernel
abbrev b_M_add : ByteArray := prog_2_method_3_code
def y_M_add : MethodName := ⟨"FatBalance$Mixture", "add", "(IJJ)V"⟩
def w_M_add : List Cond := Cond.code y_M_add b_M_add 6 none :: kT
theorem hd_M_add : y_M_add.cls ≠ "java/lang/invoke/MethodHandle" ∧ y_M_add.cls ≠ "java/lang/invoke/VarHandle" ∧ (parseMethodDescriptor y_M_add.desc).map (fun d => d.parameters.length) = some 3 := by decide +kernel
abbrev b_M_search : ByteArray := prog_2_method_7_code
def y_M_search : MethodName := ⟨"FatBalance$Mixture", "search", "(JJ)Z"⟩
def w_M_search : List Cond := Cond.code y_M_search b_M_search 8 (some .boolean) :: kT
theorem hd_M_search : y_M_search.cls ≠ "java/lang/invoke/MethodHandle" ∧ y_M_search.cls ≠ "java/lang/invoke/VarHandle" ∧ (parseMethodDescriptor y_M_search.desc).map (fun d => d.parameters.length) = some 2 := by decide +kernel
abbrev b_M_tryOne : ByteArray := prog_2_method_8_code
def y_M_tryOne : MethodName := ⟨"FatBalance$Mixture", "tryOne", "(I)V"⟩
def w_M_tryOne : List Cond := Cond.code y_M_tryOne b_M_tryOne 2 none :: kT
theorem hd_M_tryOne : y_M_tryOne.cls ≠ "java/lang/invoke/MethodHandle" ∧ y_M_tryOne.cls ≠ "java/lang/invoke/VarHandle" ∧ (parseMethodDescriptor y_M_tryOne.desc).map (fun d => d.parameters.length) = some 1 := by decide +kernel
abbrev b_M_startTrial : ByteArray := prog_2_method_11_code
def y_M_startTrial : MethodName := ⟨"FatBalance$Mixture", "startTrial", "(J)V"⟩
def w_M_startTrial : List Cond := Cond.code y_M_startTrial b_M_startTrial 4 none :: kT
theorem hd_M_startTrial : y_M_startTrial.cls ≠ "java/lang/invoke/MethodHandle" ∧ y_M_startTrial.cls ≠ "java/lang/invoke/VarHandle" ∧ (parseMethodDescriptor y_M_startTrial.desc).map (fun d => d.parameters.length) = some 1 := by decide +kernel
abbrev b_M_keepIfBetter : ByteArray := prog_2_method_12_code
def y_M_keepIfBetter : MethodName := ⟨"FatBalance$Mixture", "keepIfBetter", "()V"⟩
def w_M_keepIfBetter : List Cond := Cond.code y_M_keepIfBetter b_M_keepIfBetter 2 none :: kT
theorem hd_M_keepIfBetter : y_M_keepIfBetter.cls ≠ "java/lang/invoke/MethodHandle" ∧ y_M_keepIfBetter.cls ≠ "java/lang/invoke/VarHandle" ∧ (parseMethodDescriptor y_M_keepIfBetter.desc).map (fun d => d.parameters.length) = some 0 := by decide +kernel
abbrev b_M_isTrialPossible : ByteArray := prog_2_method_13_code
def y_M_isTrialPossible : MethodName := ⟨"FatBalance$Mixture", "isTrialPossible", "()Z"⟩
def w_M_isTrialPossible : List Cond := Cond.code y_M_isTrialPossible b_M_isTrialPossible 2 (some .boolean) :: kT
theorem hd_M_isTrialPossible : y_M_isTrialPossible.cls ≠ "java/lang/invoke/MethodHandle" ∧ y_M_isTrialPossible.cls ≠ "java/lang/invoke/VarHandle" ∧ (parseMethodDescriptor y_M_isTrialPossible.desc).map (fun d => d.parameters.length) = some 0 := by decide +kernel
abbrev b_M_isTrialBetter : ByteArray := prog_2_method_14_code
def y_M_isTrialBetter : MethodName := ⟨"FatBalance$Mixture", "isTrialBetter", "()Z"⟩
def w_M_isTrialBetter : List Cond := Cond.code y_M_isTrialBetter b_M_isTrialBetter 6 (some .boolean) :: kT
theorem hd_M_isTrialBetter : y_M_isTrialBetter.cls ≠ "java/lang/invoke/MethodHandle" ∧ y_M_isTrialBetter.cls ≠ "java/lang/invoke/VarHandle" ∧ (parseMethodDescriptor y_M_isTrialBetter.desc).map (fun d => d.parameters.length) = some 0 := by decide +kernel
abbrev b_M_tryTwo : ByteArray := prog_2_method_9_code
def y_M_tryTwo : MethodName := ⟨"FatBalance$Mixture", "tryTwo", "(II)V"⟩
def w_M_tryTwo : List Cond := Cond.code y_M_tryTwo b_M_tryTwo 5 none :: kT
theorem hd_M_tryTwo : y_M_tryTwo.cls ≠ "java/lang/invoke/MethodHandle" ∧ y_M_tryTwo.cls ≠ "java/lang/invoke/VarHandle" ∧ (parseMethodDescriptor y_M_tryTwo.desc).map (fun d => d.parameters.length) = some 2 := by decide +kernel
abbrev b_M_product : ByteArray := prog_2_method_15_code
def y_M_product : MethodName := ⟨"FatBalance$Mixture", "product", "(III)J"⟩
def w_M_product : List Cond := Cond.code y_M_product b_M_product 4 (some .long) :: kT
theorem hd_M_product : y_M_product.cls ≠ "java/lang/invoke/MethodHandle" ∧ y_M_product.cls ≠ "java/lang/invoke/VarHandle" ∧ (parseMethodDescriptor y_M_product.desc).map (fun d => d.parameters.length) = some 3 := by decide +kernel
abbrev b_M_doubleArea : ByteArray := prog_2_method_16_code
def y_M_doubleArea : MethodName := ⟨"FatBalance$Mixture", "doubleArea", "(III)J"⟩
def w_M_doubleArea : List Cond := Cond.code y_M_doubleArea b_M_doubleArea 4 (some .long) :: kT
theorem hd_M_doubleArea : y_M_doubleArea.cls ≠ "java/lang/invoke/MethodHandle" ∧ y_M_doubleArea.cls ≠ "java/lang/invoke/VarHandle" ∧ (parseMethodDescriptor y_M_doubleArea.desc).map (fun d => d.parameters.length) = some 3 := by decide +kernel
abbrev b_M_tryThree : ByteArray := prog_2_method_10_code
def y_M_tryThree : MethodName := ⟨"FatBalance$Mixture", "tryThree", "(III)V"⟩
def w_M_tryThree : List Cond := Cond.code y_M_tryThree b_M_tryThree 8 none :: kT
theorem hd_M_tryThree : y_M_tryThree.cls ≠ "java/lang/invoke/MethodHandle" ∧ y_M_tryThree.cls ≠ "java/lang/invoke/VarHandle" ∧ (parseMethodDescriptor y_M_tryThree.desc).map (fun d => d.parameters.length) = some 3 := by decide +kernel
abbrev b_X_share : ByteArray := prog_1_method_7_code
def y_X_share : MethodName := ⟨"FatBalance", "share", "(II)J"⟩
def w_X_share : List Cond := Cond.code y_X_share b_X_share 3 (some .long) :: kT
theorem hd_X_share : y_X_share.cls ≠ "java/lang/invoke/MethodHandle" ∧ y_X_share.cls ≠ "java/lang/invoke/VarHandle" ∧ (parseMethodDescriptor y_X_share.desc).map (fun d => d.parameters.length) = some 2 := by decide +kernel
abbrev b_M_isMet : ByteArray := prog_2_method_4_code
def y_M_isMet : MethodName := ⟨"FatBalance$Mixture", "isMet", "()Z"⟩
def w_M_isMet : List Cond := Cond.code y_M_isMet b_M_isMet 1 (some .boolean) :: kT
theorem hd_M_isMet : y_M_isMet.cls ≠ "java/lang/invoke/MethodHandle" ∧ y_M_isMet.cls ≠ "java/lang/invoke/VarHandle" ∧ (parseMethodDescriptor y_M_isMet.desc).map (fun d => d.parameters.length) = some 0 := by decide +kernel
abbrev b_M_aboveOf : ByteArray := prog_2_method_5_code
def y_M_aboveOf : MethodName := ⟨"FatBalance$Mixture", "aboveOf", "(I)J"⟩
def w_M_aboveOf : List Cond := Cond.code y_M_aboveOf b_M_aboveOf 3 (some .long) :: kT
theorem hd_M_aboveOf : y_M_aboveOf.cls ≠ "java/lang/invoke/MethodHandle" ∧ y_M_aboveOf.cls ≠ "java/lang/invoke/VarHandle" ∧ (parseMethodDescriptor y_M_aboveOf.desc).map (fun d => d.parameters.length) = some 1 := by decide +kernel
abbrev b_M_belowOfAll : ByteArray := prog_2_method_6_code
def y_M_belowOfAll : MethodName := ⟨"FatBalance$Mixture", "belowOfAll", "()J"⟩
def w_M_belowOfAll : List Cond := Cond.code y_M_belowOfAll b_M_belowOfAll 1 (some .long) :: kT
theorem hd_M_belowOfAll : y_M_belowOfAll.cls ≠ "java/lang/invoke/MethodHandle" ∧ y_M_belowOfAll.cls ≠ "java/lang/invoke/VarHandle" ∧ (parseMethodDescriptor y_M_belowOfAll.desc).map (fun d => d.parameters.length) = some 0 := by decide +kernel
abbrev b_X_reducedPart : ByteArray := prog_1_method_26_code
def y_X_reducedPart : MethodName := ⟨"FatBalance", "reducedPart", "(JJI)J"⟩
def w_X_reducedPart : List Cond := Cond.code y_X_reducedPart b_X_reducedPart 7 (some .long) :: kT
theorem hd_X_reducedPart : y_X_reducedPart.cls ≠ "java/lang/invoke/MethodHandle" ∧ y_X_reducedPart.cls ≠ "java/lang/invoke/VarHandle" ∧ (parseMethodDescriptor y_X_reducedPart.desc).map (fun d => d.parameters.length) = some 3 := by decide +kernel
abbrev b_X_commonDivisor : ByteArray := prog_1_method_27_code
def y_X_commonDivisor : MethodName := ⟨"FatBalance", "commonDivisor", "(JJ)J"⟩
def w_X_commonDivisor : List Cond := Cond.code y_X_commonDivisor b_X_commonDivisor 11 (some .long) :: kT
theorem hd_X_commonDivisor : y_X_commonDivisor.cls ≠ "java/lang/invoke/MethodHandle" ∧ y_X_commonDivisor.cls ≠ "java/lang/invoke/VarHandle" ∧ (parseMethodDescriptor y_X_commonDivisor.desc).map (fun d => d.parameters.length) = some 2 := by decide +kernel
abbrev b_J_max : ByteArray := prog_6_method_66_code
def y_J_max : MethodName := ⟨"java/lang/Math", "max", "(JJ)J"⟩
def w_J_max : List Cond := Cond.code y_J_max b_J_max 4 (some .long) :: kT
theorem hd_J_max : y_J_max.cls ≠ "java/lang/invoke/MethodHandle" ∧ y_J_max.cls ≠ "java/lang/invoke/VarHandle" ∧ (parseMethodDescriptor y_J_max.desc).map (fun d => d.parameters.length) = some 2 := by decide +kernel
abbrev b_X_yieldOf : ByteArray := prog_1_method_8_code
def y_X_yieldOf : MethodName := ⟨"FatBalance", "yieldOf", "(III)J"⟩
def w_X_yieldOf : List Cond := Cond.code y_X_yieldOf b_X_yieldOf 8 (some .long) :: kT
theorem hd_X_yieldOf : y_X_yieldOf.cls ≠ "java/lang/invoke/MethodHandle" ∧ y_X_yieldOf.cls ≠ "java/lang/invoke/VarHandle" ∧ (parseMethodDescriptor y_X_yieldOf.desc).map (fun d => d.parameters.length) = some 3 := by decide +kernel
abbrev b_X_yieldAbove : ByteArray := prog_1_method_20_code
def y_X_yieldAbove : MethodName := ⟨"FatBalance", "yieldAbove", "(II)J"⟩
def w_X_yieldAbove : List Cond := Cond.code y_X_yieldAbove b_X_yieldAbove 9 (some .long) :: kT
theorem hd_X_yieldAbove : y_X_yieldAbove.cls ≠ "java/lang/invoke/MethodHandle" ∧ y_X_yieldAbove.cls ≠ "java/lang/invoke/VarHandle" ∧ (parseMethodDescriptor y_X_yieldAbove.desc).map (fun d => d.parameters.length) = some 2 := by decide +kernel
abbrev b_X_yieldBelow : ByteArray := prog_1_method_21_code
def y_X_yieldBelow : MethodName := ⟨"FatBalance", "yieldBelow", "(I)J"⟩
def w_X_yieldBelow : List Cond := Cond.code y_X_yieldBelow b_X_yieldBelow 1 (some .long) :: kT
theorem hd_X_yieldBelow : y_X_yieldBelow.cls ≠ "java/lang/invoke/MethodHandle" ∧ y_X_yieldBelow.cls ≠ "java/lang/invoke/VarHandle" ∧ (parseMethodDescriptor y_X_yieldBelow.desc).map (fun d => d.parameters.length) = some 1 := by decide +kernel
abbrev b_X_gramsOf : ByteArray := prog_1_method_25_code
def y_X_gramsOf : MethodName := ⟨"FatBalance", "gramsOf", "(JJ)J"⟩
def w_X_gramsOf : List Cond := Cond.code y_X_gramsOf b_X_gramsOf 4 (some .long) :: kT
theorem hd_X_gramsOf : y_X_gramsOf.cls ≠ "java/lang/invoke/MethodHandle" ∧ y_X_gramsOf.cls ≠ "java/lang/invoke/VarHandle" ∧ (parseMethodDescriptor y_X_gramsOf.desc).map (fun d => d.parameters.length) = some 2 := by decide +kernel
abbrev b_X_loss : ByteArray := prog_1_method_9_code
def y_X_loss : MethodName := ⟨"FatBalance", "loss", "(I)J"⟩
def w_X_loss : List Cond := Cond.code y_X_loss b_X_loss 2 (some .long) :: kT
theorem hd_X_loss : y_X_loss.cls ≠ "java/lang/invoke/MethodHandle" ∧ y_X_loss.cls ≠ "java/lang/invoke/VarHandle" ∧ (parseMethodDescriptor y_X_loss.desc).map (fun d => d.parameters.length) = some 1 := by decide +kernel
abbrev b_X_penalty : ByteArray := prog_1_method_10_code
def y_X_penalty : MethodName := ⟨"FatBalance", "penalty", "(JJ)Z"⟩
def w_X_penalty : List Cond := Cond.code y_X_penalty b_X_penalty 5 (some .boolean) :: kT
theorem hd_X_penalty : y_X_penalty.cls ≠ "java/lang/invoke/MethodHandle" ∧ y_X_penalty.cls ≠ "java/lang/invoke/VarHandle" ∧ (parseMethodDescriptor y_X_penalty.desc).map (fun d => d.parameters.length) = some 2 := by decide +kernel
abbrev b_X_pay : ByteArray := prog_1_method_11_code
def y_X_pay : MethodName := ⟨"FatBalance", "pay", "(I)J"⟩
def w_X_pay : List Cond := Cond.code y_X_pay b_X_pay 5 (some .long) :: kT
theorem hd_X_pay : y_X_pay.cls ≠ "java/lang/invoke/MethodHandle" ∧ y_X_pay.cls ≠ "java/lang/invoke/VarHandle" ∧ (parseMethodDescriptor y_X_pay.desc).map (fun d => d.parameters.length) = some 1 := by decide +kernel
abbrev b_X_hundredthsRoundedUp : ByteArray := prog_1_method_24_code
def y_X_hundredthsRoundedUp : MethodName := ⟨"FatBalance", "hundredthsRoundedUp", "(J)J"⟩
def w_X_hundredthsRoundedUp : List Cond := Cond.code y_X_hundredthsRoundedUp b_X_hundredthsRoundedUp 2 (some .long) :: kT
theorem hd_X_hundredthsRoundedUp : y_X_hundredthsRoundedUp.cls ≠ "java/lang/invoke/MethodHandle" ∧ y_X_hundredthsRoundedUp.cls ≠ "java/lang/invoke/VarHandle" ∧ (parseMethodDescriptor y_X_hundredthsRoundedUp.desc).map (fun d => d.parameters.length) = some 1 := by decide +kernel
abbrev b_X_efficiency : ByteArray := prog_1_method_12_code
def y_X_efficiency : MethodName := ⟨"FatBalance", "efficiency", "(JJJ)Z"⟩
def w_X_efficiency : List Cond := Cond.code y_X_efficiency b_X_efficiency 9 (some .boolean) :: kT
theorem hd_X_efficiency : y_X_efficiency.cls ≠ "java/lang/invoke/MethodHandle" ∧ y_X_efficiency.cls ≠ "java/lang/invoke/VarHandle" ∧ (parseMethodDescriptor y_X_efficiency.desc).map (fun d => d.parameters.length) = some 3 := by decide +kernel
abbrev b_S_put : ByteArray := prog_3_method_2_code
def y_S_put : MethodName := ⟨"FatBalance$Separator", "put", "(JJ)Z"⟩
def w_S_put : List Cond := Cond.code y_S_put b_S_put 7 (some .boolean) :: kT
theorem hd_S_put : y_S_put.cls ≠ "java/lang/invoke/MethodHandle" ∧ y_S_put.cls ≠ "java/lang/invoke/VarHandle" ∧ (parseMethodDescriptor y_S_put.desc).map (fun d => d.parameters.length) = some 2 := by decide +kernel
abbrev b_X_clearChosen : ByteArray := prog_1_method_13_code
def y_X_clearChosen : MethodName := ⟨"FatBalance", "clearChosen", "()V"⟩
def w_X_clearChosen : List Cond := Cond.code y_X_clearChosen b_X_clearChosen 1 none :: kT
theorem hd_X_clearChosen : y_X_clearChosen.cls ≠ "java/lang/invoke/MethodHandle" ∧ y_X_clearChosen.cls ≠ "java/lang/invoke/VarHandle" ∧ (parseMethodDescriptor y_X_clearChosen.desc).map (fun d => d.parameters.length) = some 0 := by decide +kernel
abbrev b_R_init : ByteArray := prog_5_method_1_code
def y_R_init : MethodName := ⟨"FatBalanceModel", "<init>", "()V"⟩
def w_R_init : List Cond := Cond.code y_R_init b_R_init 1 none :: kT
theorem hd_R_init : y_R_init.cls ≠ "java/lang/invoke/MethodHandle" ∧ y_R_init.cls ≠ "java/lang/invoke/VarHandle" ∧ (parseMethodDescriptor y_R_init.desc).map (fun d => d.parameters.length) = some 0 := by decide +kernel
abbrev b_R_lot : ByteArray := prog_5_method_5_code
def y_R_lot : MethodName := ⟨"FatBalanceModel", "lot", "(JJJ)I"⟩
def w_R_lot : List Cond := Cond.code y_R_lot b_R_lot 7 (some .int) :: kT
theorem hd_R_lot : y_R_lot.cls ≠ "java/lang/invoke/MethodHandle" ∧ y_R_lot.cls ≠ "java/lang/invoke/VarHandle" ∧ (parseMethodDescriptor y_R_lot.desc).map (fun d => d.parameters.length) = some 3 := by decide +kernel
abbrev b_R_parts : ByteArray := prog_5_method_3_code
def y_R_parts : MethodName := ⟨"FatBalanceModel", "parts", "(JJ)J"⟩
def w_R_parts : List Cond := Cond.code y_R_parts b_R_parts 5 (some .long) :: kT
theorem hd_R_parts : y_R_parts.cls ≠ "java/lang/invoke/MethodHandle" ∧ y_R_parts.cls ≠ "java/lang/invoke/VarHandle" ∧ (parseMethodDescriptor y_R_parts.desc).map (fun d => d.parameters.length) = some 2 := by decide +kernel
abbrev b_R_put : ByteArray := prog_5_method_4_code
def y_R_put : MethodName := ⟨"FatBalanceModel", "put", "(JJJ)I"⟩
def w_R_put : List Cond := Cond.code y_R_put b_R_put 7 (some .int) :: kT
theorem hd_R_put : y_R_put.cls ≠ "java/lang/invoke/MethodHandle" ∧ y_R_put.cls ≠ "java/lang/invoke/VarHandle" ∧ (parseMethodDescriptor y_R_put.desc).map (fun d => d.parameters.length) = some 3 := by decide +kernel
abbrev b_R_solids : ByteArray := prog_5_method_6_code
def y_R_solids : MethodName := ⟨"FatBalanceModel", "solids", "(IJJ)Z"⟩
def w_R_solids : List Cond := Cond.code y_R_solids b_R_solids 6 (some .boolean) :: kT
theorem hd_R_solids : y_R_solids.cls ≠ "java/lang/invoke/MethodHandle" ∧ y_R_solids.cls ≠ "java/lang/invoke/VarHandle" ∧ (parseMethodDescriptor y_R_solids.desc).map (fun d => d.parameters.length) = some 3 := by decide +kernel
abbrev b_R_isLot : ByteArray := prog_5_method_2_code
def y_R_isLot : MethodName := ⟨"FatBalanceModel", "isLot", "(I)Z"⟩
def w_R_isLot : List Cond := Cond.code y_R_isLot b_R_isLot 2 (some .boolean) :: kT
theorem hd_R_isLot : y_R_isLot.cls ≠ "java/lang/invoke/MethodHandle" ∧ y_R_isLot.cls ≠ "java/lang/invoke/VarHandle" ∧ (parseMethodDescriptor y_R_isLot.desc).map (fun d => d.parameters.length) = some 1 := by decide +kernel
abbrev b_R_separate : ByteArray := prog_5_method_8_code
def y_R_separate : MethodName := ⟨"FatBalanceModel", "separate", "(IJJ)I"⟩
def w_R_separate : List Cond := Cond.code y_R_separate b_R_separate 22 (some .int) :: kT
theorem hd_R_separate : y_R_separate.cls ≠ "java/lang/invoke/MethodHandle" ∧ y_R_separate.cls ≠ "java/lang/invoke/VarHandle" ∧ (parseMethodDescriptor y_R_separate.desc).map (fun d => d.parameters.length) = some 3 := by decide +kernel
abbrev b_R_left : ByteArray := prog_5_method_7_code
def y_R_left : MethodName := ⟨"FatBalanceModel", "left", "(J)J"⟩
def w_R_left : List Cond := Cond.code y_R_left b_R_left 10 (some .long) :: kT
theorem hd_R_left : y_R_left.cls ≠ "java/lang/invoke/MethodHandle" ∧ y_R_left.cls ≠ "java/lang/invoke/VarHandle" ∧ (parseMethodDescriptor y_R_left.desc).map (fun d => d.parameters.length) = some 1 := by decide +kernel
abbrev b_R_choose : ByteArray := prog_5_method_9_code
def y_R_choose : MethodName := ⟨"FatBalanceModel", "choose", "(I)Z"⟩
def w_R_choose : List Cond := Cond.code y_R_choose b_R_choose 4 (some .boolean) :: kT
theorem hd_R_choose : y_R_choose.cls ≠ "java/lang/invoke/MethodHandle" ∧ y_R_choose.cls ≠ "java/lang/invoke/VarHandle" ∧ (parseMethodDescriptor y_R_choose.desc).map (fun d => d.parameters.length) = some 1 := by decide +kernel
abbrev b_R_clearChosen : ByteArray := prog_5_method_10_code
def y_R_clearChosen : MethodName := ⟨"FatBalanceModel", "clearChosen", "()V"⟩
def w_R_clearChosen : List Cond := Cond.code y_R_clearChosen b_R_clearChosen 1 none :: kT
theorem hd_R_clearChosen : y_R_clearChosen.cls ≠ "java/lang/invoke/MethodHandle" ∧ y_R_clearChosen.cls ≠ "java/lang/invoke/VarHandle" ∧ (parseMethodDescriptor y_R_clearChosen.desc).map (fun d => d.parameters.length) = some 0 := by decide +kernel
abbrev b_R_standard : ByteArray := prog_5_method_16_code
def y_R_standard : MethodName := ⟨"FatBalanceModel", "standard", "(JJJ)I"⟩
def w_R_standard : List Cond := Cond.code y_R_standard b_R_standard 14 (some .int) :: kT
theorem hd_R_standard : y_R_standard.cls ≠ "java/lang/invoke/MethodHandle" ∧ y_R_standard.cls ≠ "java/lang/invoke/VarHandle" ∧ (parseMethodDescriptor y_R_standard.desc).map (fun d => d.parameters.length) = some 3 := by decide +kernel
abbrev b_R_clearTrial : ByteArray := prog_5_method_12_code
def y_R_clearTrial : MethodName := ⟨"FatBalanceModel", "clearTrial", "()V"⟩
def w_R_clearTrial : List Cond := Cond.code y_R_clearTrial b_R_clearTrial 2 none :: kT
theorem hd_R_clearTrial : y_R_clearTrial.cls ≠ "java/lang/invoke/MethodHandle" ∧ y_R_clearTrial.cls ≠ "java/lang/invoke/VarHandle" ∧ (parseMethodDescriptor y_R_clearTrial.desc).map (fun d => d.parameters.length) = some 0 := by decide +kernel
abbrev b_R_take : ByteArray := prog_5_method_11_code
def y_R_take : MethodName := ⟨"FatBalanceModel", "take", "(J)V"⟩
def w_R_take : List Cond := Cond.code y_R_take b_R_take 10 none :: kT
theorem hd_R_take : y_R_take.cls ≠ "java/lang/invoke/MethodHandle" ∧ y_R_take.cls ≠ "java/lang/invoke/VarHandle" ∧ (parseMethodDescriptor y_R_take.desc).map (fun d => d.parameters.length) = some 1 := by decide +kernel
abbrev b_R_between : ByteArray := prog_5_method_14_code
def y_R_between : MethodName := ⟨"FatBalanceModel", "between", "(IIJJ)V"⟩
def w_R_between : List Cond := Cond.code y_R_between b_R_between 19 none :: kT
theorem hd_R_between : y_R_between.cls ≠ "java/lang/invoke/MethodHandle" ∧ y_R_between.cls ≠ "java/lang/invoke/VarHandle" ∧ (parseMethodDescriptor y_R_between.desc).map (fun d => d.parameters.length) = some 4 := by decide +kernel
abbrev b_R_cross : ByteArray := prog_5_method_13_code
def y_R_cross : MethodName := ⟨"FatBalanceModel", "cross", "(JJJJ)J"⟩
def w_R_cross : List Cond := Cond.code y_R_cross b_R_cross 8 (some .long) :: kT
theorem hd_R_cross : y_R_cross.cls ≠ "java/lang/invoke/MethodHandle" ∧ y_R_cross.cls ≠ "java/lang/invoke/VarHandle" ∧ (parseMethodDescriptor y_R_cross.desc).map (fun d => d.parameters.length) = some 4 := by decide +kernel
abbrev b_R_inside : ByteArray := prog_5_method_15_code
def y_R_inside : MethodName := ⟨"FatBalanceModel", "inside", "(IIIJJ)V"⟩
def w_R_inside : List Cond := Cond.code y_R_inside b_R_inside 26 none :: kT
theorem hd_R_inside : y_R_inside.cls ≠ "java/lang/invoke/MethodHandle" ∧ y_R_inside.cls ≠ "java/lang/invoke/VarHandle" ∧ (parseMethodDescriptor y_R_inside.desc).map (fun d => d.parameters.length) = some 5 := by decide +kernel
abbrev b_R_share : ByteArray := prog_5_method_18_code
def y_R_share : MethodName := ⟨"FatBalanceModel", "share", "(II)J"⟩
def w_R_share : List Cond := Cond.code y_R_share b_R_share 4 (some .long) :: kT
theorem hd_R_share : y_R_share.cls ≠ "java/lang/invoke/MethodHandle" ∧ y_R_share.cls ≠ "java/lang/invoke/VarHandle" ∧ (parseMethodDescriptor y_R_share.desc).map (fun d => d.parameters.length) = some 2 := by decide +kernel
abbrev b_R_reduced : ByteArray := prog_5_method_17_code
def y_R_reduced : MethodName := ⟨"FatBalanceModel", "reduced", "(JJI)J"⟩
def w_R_reduced : List Cond := Cond.code y_R_reduced b_R_reduced 11 (some .long) :: kT
theorem hd_R_reduced : y_R_reduced.cls ≠ "java/lang/invoke/MethodHandle" ∧ y_R_reduced.cls ≠ "java/lang/invoke/VarHandle" ∧ (parseMethodDescriptor y_R_reduced.desc).map (fun d => d.parameters.length) = some 3 := by decide +kernel
abbrev b_R_yieldOf : ByteArray := prog_5_method_19_code
def y_R_yieldOf : MethodName := ⟨"FatBalanceModel", "yieldOf", "(III)J"⟩
def w_R_yieldOf : List Cond := Cond.code y_R_yieldOf b_R_yieldOf 14 (some .long) :: kT
theorem hd_R_yieldOf : y_R_yieldOf.cls ≠ "java/lang/invoke/MethodHandle" ∧ y_R_yieldOf.cls ≠ "java/lang/invoke/VarHandle" ∧ (parseMethodDescriptor y_R_yieldOf.desc).map (fun d => d.parameters.length) = some 3 := by decide +kernel
abbrev b_R_loss : ByteArray := prog_5_method_20_code
def y_R_loss : MethodName := ⟨"FatBalanceModel", "loss", "(I)J"⟩
def w_R_loss : List Cond := Cond.code y_R_loss b_R_loss 2 (some .long) :: kT
theorem hd_R_loss : y_R_loss.cls ≠ "java/lang/invoke/MethodHandle" ∧ y_R_loss.cls ≠ "java/lang/invoke/VarHandle" ∧ (parseMethodDescriptor y_R_loss.desc).map (fun d => d.parameters.length) = some 1 := by decide +kernel
abbrev b_R_penalty : ByteArray := prog_5_method_21_code
def y_R_penalty : MethodName := ⟨"FatBalanceModel", "penalty", "(JJ)Z"⟩
def w_R_penalty : List Cond := Cond.code y_R_penalty b_R_penalty 5 (some .boolean) :: kT
theorem hd_R_penalty : y_R_penalty.cls ≠ "java/lang/invoke/MethodHandle" ∧ y_R_penalty.cls ≠ "java/lang/invoke/VarHandle" ∧ (parseMethodDescriptor y_R_penalty.desc).map (fun d => d.parameters.length) = some 2 := by decide +kernel
abbrev b_R_pay : ByteArray := prog_5_method_22_code
def y_R_pay : MethodName := ⟨"FatBalanceModel", "pay", "(I)J"⟩
def w_R_pay : List Cond := Cond.code y_R_pay b_R_pay 7 (some .long) :: kT
theorem hd_R_pay : y_R_pay.cls ≠ "java/lang/invoke/MethodHandle" ∧ y_R_pay.cls ≠ "java/lang/invoke/VarHandle" ∧ (parseMethodDescriptor y_R_pay.desc).map (fun d => d.parameters.length) = some 1 := by decide +kernel
abbrev b_R_efficiency : ByteArray := prog_5_method_23_code
def y_R_efficiency : MethodName := ⟨"FatBalanceModel", "efficiency", "(JJJ)Z"⟩
def w_R_efficiency : List Cond := Cond.code y_R_efficiency b_R_efficiency 12 (some .boolean) :: kT
theorem hd_R_efficiency : y_R_efficiency.cls ≠ "java/lang/invoke/MethodHandle" ∧ y_R_efficiency.cls ≠ "java/lang/invoke/VarHandle" ∧ (parseMethodDescriptor y_R_efficiency.desc).map (fun d => d.parameters.length) = some 3 := by decide +kernel
abbrev b_L_law : ByteArray := code
end
section
theorem wd_0 : Cond.code ({ cls := "FatBalance", name := "<init>", desc := "()V" } : Jvm.MethodName) prog_1_method_1_code (1 : Nat) (Option.none : Option FieldType) ∈ kT := kT_1 (i := 10) (by decide +kernel) (by decide +kernel)
theorem wd_1 : Cond.methodLink "FatBalance" (1 : Nat) ({ cls := "java/lang/Object", name := "<init>", desc := "()V" } : Jvm.MethodName) ∈ kT := kT_1 (i := 11) (by decide +kernel) (by decide +kernel)
theorem wd_2 : Cond.instanceMethod ({ cls := "java/lang/Object", name := "<init>", desc := "()V" } : Jvm.MethodName) ∈ kT := kT_1 (i := 12) (by decide +kernel) (by decide +kernel)
theorem wd_3 : Cond.code ({ cls := "java/lang/Object", name := "<init>", desc := "()V" } : Jvm.MethodName) object_method_1_code (1 : Nat) (Option.none : Option FieldType) ∈ kT := kT_1 (i := 13) (by decide +kernel) (by decide +kernel)
theorem wd_4 : Cond.arrayClass FieldType.long ∈ kT := kT_1 (i := 30) (by decide +kernel) (by decide +kernel)
theorem wd_5 : Cond.fieldLink "FatBalance" (9 : Nat) "FatBalance" "kilograms" "[J" ∈ kT := kT_1 (i := 67) (by decide +kernel) (by decide +kernel)
theorem wd_6 : Cond.fieldLink "FatBalance" (13 : Nat) "FatBalance" "fatParts" "[J" ∈ kT := kT_1 (i := 68) (by decide +kernel) (by decide +kernel)
theorem wd_7 : Cond.fieldLink "FatBalance" (16 : Nat) "FatBalance" "solidParts" "[J" ∈ kT := kT_1 (i := 69) (by decide +kernel) (by decide +kernel)
theorem wd_8 : Cond.arrayClass FieldType.boolean ∈ kT := kT_1 (i := 31) (by decide +kernel) (by decide +kernel)
theorem wd_9 : Cond.fieldLink "FatBalance" (19 : Nat) "FatBalance" "separated" "[Z" ∈ kT := kT_1 (i := 70) (by decide +kernel) (by decide +kernel)
theorem wd_10 : Cond.fieldLink "FatBalance" (23 : Nat) "FatBalance" "lotCount" "I" ∈ kT := kT_1 (i := 71) (by decide +kernel) (by decide +kernel)
theorem wd_11 : Cond.fieldLink "FatBalance" (27 : Nat) "FatBalance" "lost" "[J" ∈ kT := kT_1 (i := 72) (by decide +kernel) (by decide +kernel)
theorem wd_12 : Cond.fieldLink "FatBalance" (30 : Nat) "FatBalance" "separationCount" "I" ∈ kT := kT_1 (i := 73) (by decide +kernel) (by decide +kernel)
theorem wd_13 : Cond.fieldLink "FatBalance" (33 : Nat) "FatBalance" "penaltyFrom" "[J" ∈ kT := kT_1 (i := 74) (by decide +kernel) (by decide +kernel)
theorem wd_14 : Cond.fieldLink "FatBalance" (36 : Nat) "FatBalance" "penaltyCents" "[J" ∈ kT := kT_1 (i := 75) (by decide +kernel) (by decide +kernel)
theorem wd_15 : Cond.fieldLink "FatBalance" (39 : Nat) "FatBalance" "penaltyCount" "I" ∈ kT := kT_1 (i := 76) (by decide +kernel) (by decide +kernel)
theorem wd_16 : Cond.arrayClass FieldType.int ∈ kT := kT_1 (i := 32) (by decide +kernel) (by decide +kernel)
theorem wd_17 : Cond.fieldLink "FatBalance" (42 : Nat) "FatBalance" "chosen" "[I" ∈ kT := kT_1 (i := 77) (by decide +kernel) (by decide +kernel)
theorem wd_18 : Cond.fieldLink "FatBalance" (46 : Nat) "FatBalance" "chosenCount" "I" ∈ kT := kT_1 (i := 78) (by decide +kernel) (by decide +kernel)
theorem wd_19 : Cond.classLink "FatBalance" (49 : Nat) "FatBalance$Separator" ∈ kT := kT_1 (i := 14) (by decide +kernel) (by decide +kernel)
theorem wd_20 : Cond.instantiable "FatBalance$Separator" (3 : Nat) ∈ kT := kT_1 (i := 15) (by decide +kernel) (by decide +kernel)
theorem wd_21 : Cond.initialized "FatBalance$Separator" ∈ kT := kT_1 (i := 2) (by decide +kernel) (by decide +kernel)
theorem wd_22 : Cond.instanceMethod ({ cls := "FatBalance$Separator", name := "<init>", desc := "()V" } : Jvm.MethodName) ∈ kT := kT_1 (i := 17) (by decide +kernel) (by decide +kernel)
theorem wd_23 : Cond.fieldLink "FatBalance" (52 : Nat) "FatBalance" "separator" "LFatBalance$Separator;" ∈ kT := kT_1 (i := 79) (by decide +kernel) (by decide +kernel)
theorem wd_24 : Cond.classLink "FatBalance" (56 : Nat) "FatBalance$Mixture" ∈ kT := kT_1 (i := 33) (by decide +kernel) (by decide +kernel)
theorem wd_25 : Cond.instantiable "FatBalance$Mixture" (9 : Nat) ∈ kT := kT_1 (i := 34) (by decide +kernel) (by decide +kernel)
theorem wd_26 : Cond.initialized "FatBalance$Mixture" ∈ kT := kT_1 (i := 3) (by decide +kernel) (by decide +kernel)
theorem wd_27 : Cond.instanceMethod ({ cls := "FatBalance$Mixture", name := "<init>", desc := "()V" } : Jvm.MethodName) ∈ kT := kT_1 (i := 36) (by decide +kernel) (by decide +kernel)
theorem wd_28 : Cond.fieldLink "FatBalance" (59 : Nat) "FatBalance" "mixture" "LFatBalance$Mixture;" ∈ kT := kT_1 (i := 80) (by decide +kernel) (by decide +kernel)
theorem wd_29 : Cond.code ({ cls := "FatBalance$Separator", name := "<init>", desc := "()V" } : Jvm.MethodName) prog_3_method_1_code (1 : Nat) (Option.none : Option FieldType) ∈ kT := kT_1 (i := 18) (by decide +kernel) (by decide +kernel)
theorem wd_30 : Cond.methodLink "FatBalance$Separator" (3 : Nat) ({ cls := "java/lang/Object", name := "<init>", desc := "()V" } : Jvm.MethodName) ∈ kT := kT_1 (i := 19) (by decide +kernel) (by decide +kernel)
theorem wd_31 : Cond.fieldLink "FatBalance$Separator" (9 : Nat) "FatBalance$Separator" "rowAt" "[J" ∈ kT := kT_1 (i := 20) (by decide +kernel) (by decide +kernel)
theorem wd_32 : Cond.fieldLink "FatBalance$Separator" (15 : Nat) "FatBalance$Separator" "rowFat" "[J" ∈ kT := kT_1 (i := 21) (by decide +kernel) (by decide +kernel)
theorem wd_33 : Cond.fieldLink "FatBalance$Separator" (18 : Nat) "FatBalance$Separator" "rowCount" "I" ∈ kT := kT_1 (i := 22) (by decide +kernel) (by decide +kernel)
theorem wd_34 : Cond.code ({ cls := "FatBalance$Mixture", name := "<init>", desc := "()V" } : Jvm.MethodName) prog_2_method_1_code (1 : Nat) (Option.none : Option FieldType) ∈ kT := kT_1 (i := 37) (by decide +kernel) (by decide +kernel)
theorem wd_35 : Cond.methodLink "FatBalance$Mixture" (3 : Nat) ({ cls := "java/lang/Object", name := "<init>", desc := "()V" } : Jvm.MethodName) ∈ kT := kT_1 (i := 38) (by decide +kernel) (by decide +kernel)
theorem wd_36 : Cond.fieldLink "FatBalance$Mixture" (9 : Nat) "FatBalance$Mixture" "lots" "[I" ∈ kT := kT_1 (i := 39) (by decide +kernel) (by decide +kernel)
theorem wd_37 : Cond.fieldLink "FatBalance$Mixture" (15 : Nat) "FatBalance$Mixture" "count" "I" ∈ kT := kT_1 (i := 40) (by decide +kernel) (by decide +kernel)
theorem wd_38 : Cond.fieldLink "FatBalance$Mixture" (19 : Nat) "FatBalance$Mixture" "fats" "[J" ∈ kT := kT_1 (i := 41) (by decide +kernel) (by decide +kernel)
theorem wd_39 : Cond.fieldLink "FatBalance$Mixture" (23 : Nat) "FatBalance$Mixture" "solidsOfPoints" "[J" ∈ kT := kT_1 (i := 42) (by decide +kernel) (by decide +kernel)
theorem wd_40 : Cond.fieldLink "FatBalance$Mixture" (26 : Nat) "FatBalance$Mixture" "trial" "[J" ∈ kT := kT_1 (i := 43) (by decide +kernel) (by decide +kernel)
theorem wd_41 : Cond.fieldLink "FatBalance$Mixture" (29 : Nat) "FatBalance$Mixture" "trialBelow" "J" ∈ kT := kT_1 (i := 44) (by decide +kernel) (by decide +kernel)
theorem wd_42 : Cond.fieldLink "FatBalance$Mixture" (33 : Nat) "FatBalance$Mixture" "best" "[J" ∈ kT := kT_1 (i := 45) (by decide +kernel) (by decide +kernel)
theorem wd_43 : Cond.fieldLink "FatBalance$Mixture" (36 : Nat) "FatBalance$Mixture" "bestBelow" "J" ∈ kT := kT_1 (i := 46) (by decide +kernel) (by decide +kernel)
theorem wd_44 : Cond.fieldLink "FatBalance$Mixture" (39 : Nat) "FatBalance$Mixture" "met" "Z" ∈ kT := kT_1 (i := 47) (by decide +kernel) (by decide +kernel)
theorem wd_45 : Cond.code ({ cls := "FatBalance", name := "lot", desc := "(JJJ)I" } : Jvm.MethodName) prog_1_method_2_code (9 : Nat) (Option.some FieldType.int) ∈ kT := kT_1 (i := 113) (by decide +kernel) (by decide +kernel)
theorem wd_46 : Cond.initialized "FatBalance" ∈ kT := kT_1 (i := 1) (by decide +kernel) (by decide +kernel)
theorem wd_47 : Cond.static ({ cls := "FatBalance", name := "wholeParts", desc := "(JJ)J" } : Jvm.MethodName) ∈ kT := kT_1 (i := 115) (by decide +kernel) (by decide +kernel)
theorem wd_48 : Cond.methodLink "FatBalance" (63 : Nat) ({ cls := "FatBalance", name := "wholeParts", desc := "(JJ)J" } : Jvm.MethodName) ∈ kT := kT_1 (i := 114) (by decide +kernel) (by decide +kernel)
theorem wd_49 : Cond.constantLong "FatBalance" (67 : Nat) (1000000 : Int64) ∈ kT := kT_1 (i := 122) (by decide +kernel) (by decide +kernel)
theorem wd_50 : Cond.static ({ cls := "FatBalance", name := "isWithin", desc := "(JJJ)Z" } : Jvm.MethodName) ∈ kT := kT_1 (i := 119) (by decide +kernel) (by decide +kernel)
theorem wd_51 : Cond.methodLink "FatBalance" (69 : Nat) ({ cls := "FatBalance", name := "isWithin", desc := "(JJJ)Z" } : Jvm.MethodName) ∈ kT := kT_1 (i := 118) (by decide +kernel) (by decide +kernel)
theorem wd_52 : Cond.constantLong "FatBalance" (73 : Nat) (-1 : Int64) ∈ kT := kT_1 (i := 121) (by decide +kernel) (by decide +kernel)
theorem wd_53 : Cond.instanceMethod ({ cls := "FatBalance", name := "addLot", desc := "(JJJ)I" } : Jvm.MethodName) ∈ kT := kT_1 (i := 125) (by decide +kernel) (by decide +kernel)
theorem wd_54 : Cond.selects "FatBalance" ({ cls := "FatBalance", name := "addLot", desc := "(JJJ)I" } : Jvm.MethodName) ({ cls := "FatBalance", name := "addLot", desc := "(JJJ)I" } : Jvm.MethodName) ∈ kT := kT_p (i := 0) (by decide +kernel) (by decide +kernel)
theorem wd_55 : Cond.methodLink "FatBalance" (75 : Nat) ({ cls := "FatBalance", name := "addLot", desc := "(JJJ)I" } : Jvm.MethodName) ∈ kT := kT_1 (i := 123) (by decide +kernel) (by decide +kernel)
theorem wd_56 : Cond.code ({ cls := "FatBalance", name := "wholeParts", desc := "(JJ)J" } : Jvm.MethodName) prog_1_method_23_code (6 : Nat) (Option.some FieldType.long) ∈ kT := kT_1 (i := 116) (by decide +kernel) (by decide +kernel)
theorem wd_57 : Cond.constantLong "FatBalance" (83 : Nat) (10000 : Int64) ∈ kT := kT_1 (i := 117) (by decide +kernel) (by decide +kernel)
theorem wd_58 : Cond.code ({ cls := "FatBalance", name := "isWithin", desc := "(JJJ)Z" } : Jvm.MethodName) prog_1_method_22_code (6 : Nat) (Option.some FieldType.boolean) ∈ kT := kT_1 (i := 120) (by decide +kernel) (by decide +kernel)
theorem wd_59 : Cond.code ({ cls := "FatBalance", name := "addLot", desc := "(JJJ)I" } : Jvm.MethodName) prog_1_method_16_code (8 : Nat) (Option.some FieldType.int) ∈ kT := kT_1 (i := 126) (by decide +kernel) (by decide +kernel)
theorem wd_60 : Cond.code ({ cls := "FatBalance", name := "solids", desc := "(IJJ)Z" } : Jvm.MethodName) prog_1_method_3_code (8 : Nat) (Option.some FieldType.boolean) ∈ kT := kT_1 (i := 130) (by decide +kernel) (by decide +kernel)
theorem wd_61 : Cond.instanceMethod ({ cls := "FatBalance", name := "isUnseparated", desc := "(I)Z" } : Jvm.MethodName) ∈ kT := kT_1 (i := 133) (by decide +kernel) (by decide +kernel)
theorem wd_62 : Cond.selects "FatBalance" ({ cls := "FatBalance", name := "isUnseparated", desc := "(I)Z" } : Jvm.MethodName) ({ cls := "FatBalance", name := "isUnseparated", desc := "(I)Z" } : Jvm.MethodName) ∈ kT := kT_p (i := 1) (by decide +kernel) (by decide +kernel)
theorem wd_63 : Cond.methodLink "FatBalance" (79 : Nat) ({ cls := "FatBalance", name := "isUnseparated", desc := "(I)Z" } : Jvm.MethodName) ∈ kT := kT_1 (i := 131) (by decide +kernel) (by decide +kernel)
theorem wd_64 : Cond.code ({ cls := "FatBalance", name := "isUnseparated", desc := "(I)Z" } : Jvm.MethodName) prog_1_method_15_code (2 : Nat) (Option.some FieldType.boolean) ∈ kT := kT_1 (i := 134) (by decide +kernel) (by decide +kernel)
theorem wd_65 : Cond.instanceMethod ({ cls := "FatBalance", name := "isLot", desc := "(I)Z" } : Jvm.MethodName) ∈ kT := kT_1 (i := 137) (by decide +kernel) (by decide +kernel)
theorem wd_66 : Cond.selects "FatBalance" ({ cls := "FatBalance", name := "isLot", desc := "(I)Z" } : Jvm.MethodName) ({ cls := "FatBalance", name := "isLot", desc := "(I)Z" } : Jvm.MethodName) ∈ kT := kT_p (i := 2) (by decide +kernel) (by decide +kernel)
theorem wd_67 : Cond.methodLink "FatBalance" (112 : Nat) ({ cls := "FatBalance", name := "isLot", desc := "(I)Z" } : Jvm.MethodName) ∈ kT := kT_1 (i := 135) (by decide +kernel) (by decide +kernel)
theorem wd_68 : Cond.code ({ cls := "FatBalance", name := "isLot", desc := "(I)Z" } : Jvm.MethodName) prog_1_method_14_code (2 : Nat) (Option.some FieldType.boolean) ∈ kT := kT_1 (i := 138) (by decide +kernel) (by decide +kernel)
theorem wd_69 : Cond.code ({ cls := "FatBalance", name := "separate", desc := "(IJJ)I" } : Jvm.MethodName) prog_1_method_4_code (10 : Nat) (Option.some FieldType.int) ∈ kT := kT_1 (i := 142) (by decide +kernel) (by decide +kernel)
theorem wd_70 : Cond.instanceMethod ({ cls := "FatBalance$Separator", name := "skimFatAt", desc := "(J)J" } : Jvm.MethodName) ∈ kT := kT_1 (i := 144) (by decide +kernel) (by decide +kernel)
theorem wd_71 : Cond.selects "FatBalance$Separator" ({ cls := "FatBalance$Separator", name := "skimFatAt", desc := "(J)J" } : Jvm.MethodName) ({ cls := "FatBalance$Separator", name := "skimFatAt", desc := "(J)J" } : Jvm.MethodName) ∈ kT := kT_1 (i := 145) (by decide +kernel) (by decide +kernel)
theorem wd_72 : Cond.methodLink "FatBalance" (85 : Nat) ({ cls := "FatBalance$Separator", name := "skimFatAt", desc := "(J)J" } : Jvm.MethodName) ∈ kT := kT_1 (i := 143) (by decide +kernel) (by decide +kernel)
theorem wd_73 : Cond.instanceMethod ({ cls := "FatBalance", name := "split", desc := "(IJJ)I" } : Jvm.MethodName) ∈ kT := kT_1 (i := 160) (by decide +kernel) (by decide +kernel)
theorem wd_74 : Cond.selects "FatBalance" ({ cls := "FatBalance", name := "split", desc := "(IJJ)I" } : Jvm.MethodName) ({ cls := "FatBalance", name := "split", desc := "(IJJ)I" } : Jvm.MethodName) ∈ kT := kT_p (i := 5) (by decide +kernel) (by decide +kernel)
theorem wd_75 : Cond.methodLink "FatBalance" (89 : Nat) ({ cls := "FatBalance", name := "split", desc := "(IJJ)I" } : Jvm.MethodName) ∈ kT := kT_1 (i := 158) (by decide +kernel) (by decide +kernel)
theorem wd_76 : Cond.code ({ cls := "FatBalance$Separator", name := "skimFatAt", desc := "(J)J" } : Jvm.MethodName) prog_3_method_3_code (4 : Nat) (Option.some FieldType.long) ∈ kT := kT_1 (i := 146) (by decide +kernel) (by decide +kernel)
theorem wd_77 : Cond.instanceMethod ({ cls := "FatBalance$Separator", name := "firstNotBefore", desc := "(J)I" } : Jvm.MethodName) ∈ kT := kT_1 (i := 149) (by decide +kernel) (by decide +kernel)
theorem wd_78 : Cond.selects "FatBalance$Separator" ({ cls := "FatBalance$Separator", name := "firstNotBefore", desc := "(J)I" } : Jvm.MethodName) ({ cls := "FatBalance$Separator", name := "firstNotBefore", desc := "(J)I" } : Jvm.MethodName) ∈ kT := kT_p (i := 3) (by decide +kernel) (by decide +kernel)
theorem wd_79 : Cond.methodLink "FatBalance$Separator" (22 : Nat) ({ cls := "FatBalance$Separator", name := "firstNotBefore", desc := "(J)I" } : Jvm.MethodName) ∈ kT := kT_1 (i := 147) (by decide +kernel) (by decide +kernel)
theorem wd_80 : Cond.instanceMethod ({ cls := "FatBalance$Separator", name := "between", desc := "(IIJ)J" } : Jvm.MethodName) ∈ kT := kT_1 (i := 153) (by decide +kernel) (by decide +kernel)
theorem wd_81 : Cond.selects "FatBalance$Separator" ({ cls := "FatBalance$Separator", name := "between", desc := "(IIJ)J" } : Jvm.MethodName) ({ cls := "FatBalance$Separator", name := "between", desc := "(IIJ)J" } : Jvm.MethodName) ∈ kT := kT_p (i := 4) (by decide +kernel) (by decide +kernel)
theorem wd_82 : Cond.methodLink "FatBalance$Separator" (26 : Nat) ({ cls := "FatBalance$Separator", name := "between", desc := "(IIJ)J" } : Jvm.MethodName) ∈ kT := kT_1 (i := 151) (by decide +kernel) (by decide +kernel)
theorem wd_83 : Cond.code ({ cls := "FatBalance$Separator", name := "firstNotBefore", desc := "(J)I" } : Jvm.MethodName) prog_3_method_5_code (4 : Nat) (Option.some FieldType.int) ∈ kT := kT_1 (i := 150) (by decide +kernel) (by decide +kernel)
theorem wd_84 : Cond.code ({ cls := "FatBalance$Separator", name := "between", desc := "(IIJ)J" } : Jvm.MethodName) prog_3_method_4_code (7 : Nat) (Option.some FieldType.long) ∈ kT := kT_1 (i := 154) (by decide +kernel) (by decide +kernel)
theorem wd_85 : Cond.initialized "java/lang/Math" ∈ kT := kT_1 (i := 5) (by decide +kernel) (by decide +kernel)
theorem wd_86 : Cond.static ({ cls := "java/lang/Math", name := "floorDiv", desc := "(JJ)J" } : Jvm.MethodName) ∈ kT := kT_1 (i := 156) (by decide +kernel) (by decide +kernel)
theorem wd_87 : Cond.methodLink "FatBalance$Separator" (30 : Nat) ({ cls := "java/lang/Math", name := "floorDiv", desc := "(JJ)J" } : Jvm.MethodName) ∈ kT := kT_1 (i := 155) (by decide +kernel) (by decide +kernel)
theorem wd_88 : Cond.code ({ cls := "java/lang/Math", name := "floorDiv", desc := "(JJ)J" } : Jvm.MethodName) prog_6_method_49_code (6 : Nat) (Option.some FieldType.long) ∈ kT := kT_1 (i := 157) (by decide +kernel) (by decide +kernel)
theorem wd_89 : Cond.code ({ cls := "FatBalance", name := "split", desc := "(IJJ)I" } : Jvm.MethodName) prog_1_method_17_code (15 : Nat) (Option.some FieldType.int) ∈ kT := kT_1 (i := 161) (by decide +kernel) (by decide +kernel)
theorem wd_90 : Cond.instanceMethod ({ cls := "FatBalance", name := "unchoose", desc := "(I)V" } : Jvm.MethodName) ∈ kT := kT_1 (i := 164) (by decide +kernel) (by decide +kernel)
theorem wd_91 : Cond.selects "FatBalance" ({ cls := "FatBalance", name := "unchoose", desc := "(I)V" } : Jvm.MethodName) ({ cls := "FatBalance", name := "unchoose", desc := "(I)V" } : Jvm.MethodName) ∈ kT := kT_p (i := 6) (by decide +kernel) (by decide +kernel)
theorem wd_92 : Cond.methodLink "FatBalance" (156 : Nat) ({ cls := "FatBalance", name := "unchoose", desc := "(I)V" } : Jvm.MethodName) ∈ kT := kT_1 (i := 162) (by decide +kernel) (by decide +kernel)
theorem wd_93 : Cond.code ({ cls := "FatBalance", name := "unchoose", desc := "(I)V" } : Jvm.MethodName) prog_1_method_19_code (4 : Nat) (Option.none : Option FieldType) ∈ kT := kT_1 (i := 165) (by decide +kernel) (by decide +kernel)
theorem wd_94 : Cond.instanceMethod ({ cls := "FatBalance", name := "placeAmongChosen", desc := "(I)I" } : Jvm.MethodName) ∈ kT := kT_1 (i := 168) (by decide +kernel) (by decide +kernel)
theorem wd_95 : Cond.selects "FatBalance" ({ cls := "FatBalance", name := "placeAmongChosen", desc := "(I)I" } : Jvm.MethodName) ({ cls := "FatBalance", name := "placeAmongChosen", desc := "(I)I" } : Jvm.MethodName) ∈ kT := kT_p (i := 7) (by decide +kernel) (by decide +kernel)
theorem wd_96 : Cond.methodLink "FatBalance" (93 : Nat) ({ cls := "FatBalance", name := "placeAmongChosen", desc := "(I)I" } : Jvm.MethodName) ∈ kT := kT_1 (i := 166) (by decide +kernel) (by decide +kernel)
theorem wd_97 : Cond.code ({ cls := "FatBalance", name := "placeAmongChosen", desc := "(I)I" } : Jvm.MethodName) prog_1_method_18_code (3 : Nat) (Option.some FieldType.int) ∈ kT := kT_1 (i := 169) (by decide +kernel) (by decide +kernel)
theorem wd_98 : Cond.code ({ cls := "FatBalance", name := "choose", desc := "(I)Z" } : Jvm.MethodName) prog_1_method_5_code (2 : Nat) (Option.some FieldType.boolean) ∈ kT := kT_1 (i := 173) (by decide +kernel) (by decide +kernel)
theorem wd_99 : Cond.code ({ cls := "FatBalance", name := "standard", desc := "(JJJ)I" } : Jvm.MethodName) prog_1_method_6_code (13 : Nat) (Option.some FieldType.int) ∈ kT := kT_1 (i := 177) (by decide +kernel) (by decide +kernel)
theorem wd_100 : Cond.instanceMethod ({ cls := "FatBalance$Mixture", name := "forget", desc := "()V" } : Jvm.MethodName) ∈ kT := kT_1 (i := 179) (by decide +kernel) (by decide +kernel)
theorem wd_101 : Cond.selects "FatBalance$Mixture" ({ cls := "FatBalance$Mixture", name := "forget", desc := "()V" } : Jvm.MethodName) ({ cls := "FatBalance$Mixture", name := "forget", desc := "()V" } : Jvm.MethodName) ∈ kT := kT_1 (i := 180) (by decide +kernel) (by decide +kernel)
theorem wd_102 : Cond.methodLink "FatBalance" (97 : Nat) ({ cls := "FatBalance$Mixture", name := "forget", desc := "()V" } : Jvm.MethodName) ∈ kT := kT_1 (i := 178) (by decide +kernel) (by decide +kernel)
theorem wd_103 : Cond.instanceMethod ({ cls := "FatBalance$Mixture", name := "add", desc := "(IJJ)V" } : Jvm.MethodName) ∈ kT := kT_1 (i := 183) (by decide +kernel) (by decide +kernel)
theorem wd_104 : Cond.selects "FatBalance$Mixture" ({ cls := "FatBalance$Mixture", name := "add", desc := "(IJJ)V" } : Jvm.MethodName) ({ cls := "FatBalance$Mixture", name := "add", desc := "(IJJ)V" } : Jvm.MethodName) ∈ kT := kT_1 (i := 184) (by decide +kernel) (by decide +kernel)
theorem wd_105 : Cond.methodLink "FatBalance" (100 : Nat) ({ cls := "FatBalance$Mixture", name := "add", desc := "(IJJ)V" } : Jvm.MethodName) ∈ kT := kT_1 (i := 182) (by decide +kernel) (by decide +kernel)
theorem wd_106 : Cond.instanceMethod ({ cls := "FatBalance$Mixture", name := "search", desc := "(JJ)Z" } : Jvm.MethodName) ∈ kT := kT_1 (i := 187) (by decide +kernel) (by decide +kernel)
theorem wd_107 : Cond.selects "FatBalance$Mixture" ({ cls := "FatBalance$Mixture", name := "search", desc := "(JJ)Z" } : Jvm.MethodName) ({ cls := "FatBalance$Mixture", name := "search", desc := "(JJ)Z" } : Jvm.MethodName) ∈ kT := kT_1 (i := 188) (by decide +kernel) (by decide +kernel)
theorem wd_108 : Cond.methodLink "FatBalance" (104 : Nat) ({ cls := "FatBalance$Mixture", name := "search", desc := "(JJ)Z" } : Jvm.MethodName) ∈ kT := kT_1 (i := 186) (by decide +kernel) (by decide +kernel)
theorem wd_109 : Cond.code ({ cls := "FatBalance$Mixture", name := "forget", desc := "()V" } : Jvm.MethodName) prog_2_method_2_code (1 : Nat) (Option.none : Option FieldType) ∈ kT := kT_1 (i := 181) (by decide +kernel) (by decide +kernel)
theorem wd_110 : Cond.code ({ cls := "FatBalance$Mixture", name := "add", desc := "(IJJ)V" } : Jvm.MethodName) prog_2_method_3_code (6 : Nat) (Option.none : Option FieldType) ∈ kT := kT_1 (i := 185) (by decide +kernel) (by decide +kernel)
theorem wd_111 : Cond.code ({ cls := "FatBalance$Mixture", name := "search", desc := "(JJ)Z" } : Jvm.MethodName) prog_2_method_7_code (8 : Nat) (Option.some FieldType.boolean) ∈ kT := kT_1 (i := 189) (by decide +kernel) (by decide +kernel)
theorem wd_112 : Cond.instanceMethod ({ cls := "FatBalance$Mixture", name := "tryOne", desc := "(I)V" } : Jvm.MethodName) ∈ kT := kT_1 (i := 192) (by decide +kernel) (by decide +kernel)
theorem wd_113 : Cond.selects "FatBalance$Mixture" ({ cls := "FatBalance$Mixture", name := "tryOne", desc := "(I)V" } : Jvm.MethodName) ({ cls := "FatBalance$Mixture", name := "tryOne", desc := "(I)V" } : Jvm.MethodName) ∈ kT := kT_p (i := 8) (by decide +kernel) (by decide +kernel)
theorem wd_114 : Cond.methodLink "FatBalance$Mixture" (43 : Nat) ({ cls := "FatBalance$Mixture", name := "tryOne", desc := "(I)V" } : Jvm.MethodName) ∈ kT := kT_1 (i := 190) (by decide +kernel) (by decide +kernel)
theorem wd_115 : Cond.instanceMethod ({ cls := "FatBalance$Mixture", name := "tryTwo", desc := "(II)V" } : Jvm.MethodName) ∈ kT := kT_1 (i := 212) (by decide +kernel) (by decide +kernel)
theorem wd_116 : Cond.selects "FatBalance$Mixture" ({ cls := "FatBalance$Mixture", name := "tryTwo", desc := "(II)V" } : Jvm.MethodName) ({ cls := "FatBalance$Mixture", name := "tryTwo", desc := "(II)V" } : Jvm.MethodName) ∈ kT := kT_p (i := 13) (by decide +kernel) (by decide +kernel)
theorem wd_117 : Cond.methodLink "FatBalance$Mixture" (47 : Nat) ({ cls := "FatBalance$Mixture", name := "tryTwo", desc := "(II)V" } : Jvm.MethodName) ∈ kT := kT_1 (i := 210) (by decide +kernel) (by decide +kernel)
theorem wd_118 : Cond.instanceMethod ({ cls := "FatBalance$Mixture", name := "tryThree", desc := "(III)V" } : Jvm.MethodName) ∈ kT := kT_1 (i := 224) (by decide +kernel) (by decide +kernel)
theorem wd_119 : Cond.selects "FatBalance$Mixture" ({ cls := "FatBalance$Mixture", name := "tryThree", desc := "(III)V" } : Jvm.MethodName) ({ cls := "FatBalance$Mixture", name := "tryThree", desc := "(III)V" } : Jvm.MethodName) ∈ kT := kT_p (i := 16) (by decide +kernel) (by decide +kernel)
theorem wd_120 : Cond.methodLink "FatBalance$Mixture" (51 : Nat) ({ cls := "FatBalance$Mixture", name := "tryThree", desc := "(III)V" } : Jvm.MethodName) ∈ kT := kT_1 (i := 222) (by decide +kernel) (by decide +kernel)
theorem wd_121 : Cond.code ({ cls := "FatBalance$Mixture", name := "tryOne", desc := "(I)V" } : Jvm.MethodName) prog_2_method_8_code (2 : Nat) (Option.none : Option FieldType) ∈ kT := kT_1 (i := 193) (by decide +kernel) (by decide +kernel)
theorem wd_122 : Cond.instanceMethod ({ cls := "FatBalance$Mixture", name := "startTrial", desc := "(J)V" } : Jvm.MethodName) ∈ kT := kT_1 (i := 196) (by decide +kernel) (by decide +kernel)
theorem wd_123 : Cond.selects "FatBalance$Mixture" ({ cls := "FatBalance$Mixture", name := "startTrial", desc := "(J)V" } : Jvm.MethodName) ({ cls := "FatBalance$Mixture", name := "startTrial", desc := "(J)V" } : Jvm.MethodName) ∈ kT := kT_p (i := 9) (by decide +kernel) (by decide +kernel)
theorem wd_124 : Cond.methodLink "FatBalance$Mixture" (55 : Nat) ({ cls := "FatBalance$Mixture", name := "startTrial", desc := "(J)V" } : Jvm.MethodName) ∈ kT := kT_1 (i := 194) (by decide +kernel) (by decide +kernel)
theorem wd_125 : Cond.instanceMethod ({ cls := "FatBalance$Mixture", name := "keepIfBetter", desc := "()V" } : Jvm.MethodName) ∈ kT := kT_1 (i := 200) (by decide +kernel) (by decide +kernel)
theorem wd_126 : Cond.selects "FatBalance$Mixture" ({ cls := "FatBalance$Mixture", name := "keepIfBetter", desc := "()V" } : Jvm.MethodName) ({ cls := "FatBalance$Mixture", name := "keepIfBetter", desc := "()V" } : Jvm.MethodName) ∈ kT := kT_p (i := 10) (by decide +kernel) (by decide +kernel)
theorem wd_127 : Cond.methodLink "FatBalance$Mixture" (59 : Nat) ({ cls := "FatBalance$Mixture", name := "keepIfBetter", desc := "()V" } : Jvm.MethodName) ∈ kT := kT_1 (i := 198) (by decide +kernel) (by decide +kernel)
theorem wd_128 : Cond.code ({ cls := "FatBalance$Mixture", name := "startTrial", desc := "(J)V" } : Jvm.MethodName) prog_2_method_11_code (4 : Nat) (Option.none : Option FieldType) ∈ kT := kT_1 (i := 197) (by decide +kernel) (by decide +kernel)
theorem wd_129 : Cond.code ({ cls := "FatBalance$Mixture", name := "keepIfBetter", desc := "()V" } : Jvm.MethodName) prog_2_method_12_code (2 : Nat) (Option.none : Option FieldType) ∈ kT := kT_1 (i := 201) (by decide +kernel) (by decide +kernel)
theorem wd_130 : Cond.instanceMethod ({ cls := "FatBalance$Mixture", name := "isTrialPossible", desc := "()Z" } : Jvm.MethodName) ∈ kT := kT_1 (i := 204) (by decide +kernel) (by decide +kernel)
theorem wd_131 : Cond.selects "FatBalance$Mixture" ({ cls := "FatBalance$Mixture", name := "isTrialPossible", desc := "()Z" } : Jvm.MethodName) ({ cls := "FatBalance$Mixture", name := "isTrialPossible", desc := "()Z" } : Jvm.MethodName) ∈ kT := kT_p (i := 11) (by decide +kernel) (by decide +kernel)
theorem wd_132 : Cond.methodLink "FatBalance$Mixture" (71 : Nat) ({ cls := "FatBalance$Mixture", name := "isTrialPossible", desc := "()Z" } : Jvm.MethodName) ∈ kT := kT_1 (i := 202) (by decide +kernel) (by decide +kernel)
theorem wd_133 : Cond.instanceMethod ({ cls := "FatBalance$Mixture", name := "isTrialBetter", desc := "()Z" } : Jvm.MethodName) ∈ kT := kT_1 (i := 208) (by decide +kernel) (by decide +kernel)
theorem wd_134 : Cond.selects "FatBalance$Mixture" ({ cls := "FatBalance$Mixture", name := "isTrialBetter", desc := "()Z" } : Jvm.MethodName) ({ cls := "FatBalance$Mixture", name := "isTrialBetter", desc := "()Z" } : Jvm.MethodName) ∈ kT := kT_p (i := 12) (by decide +kernel) (by decide +kernel)
theorem wd_135 : Cond.methodLink "FatBalance$Mixture" (75 : Nat) ({ cls := "FatBalance$Mixture", name := "isTrialBetter", desc := "()Z" } : Jvm.MethodName) ∈ kT := kT_1 (i := 206) (by decide +kernel) (by decide +kernel)
theorem wd_136 : Cond.code ({ cls := "FatBalance$Mixture", name := "isTrialPossible", desc := "()Z" } : Jvm.MethodName) prog_2_method_13_code (2 : Nat) (Option.some FieldType.boolean) ∈ kT := kT_1 (i := 205) (by decide +kernel) (by decide +kernel)
theorem wd_137 : Cond.code ({ cls := "FatBalance$Mixture", name := "isTrialBetter", desc := "()Z" } : Jvm.MethodName) prog_2_method_14_code (6 : Nat) (Option.some FieldType.boolean) ∈ kT := kT_1 (i := 209) (by decide +kernel) (by decide +kernel)
theorem wd_138 : Cond.code ({ cls := "FatBalance$Mixture", name := "tryTwo", desc := "(II)V" } : Jvm.MethodName) prog_2_method_9_code (5 : Nat) (Option.none : Option FieldType) ∈ kT := kT_1 (i := 213) (by decide +kernel) (by decide +kernel)
theorem wd_139 : Cond.instanceMethod ({ cls := "FatBalance$Mixture", name := "product", desc := "(III)J" } : Jvm.MethodName) ∈ kT := kT_1 (i := 216) (by decide +kernel) (by decide +kernel)
theorem wd_140 : Cond.selects "FatBalance$Mixture" ({ cls := "FatBalance$Mixture", name := "product", desc := "(III)J" } : Jvm.MethodName) ({ cls := "FatBalance$Mixture", name := "product", desc := "(III)J" } : Jvm.MethodName) ∈ kT := kT_p (i := 14) (by decide +kernel) (by decide +kernel)
theorem wd_141 : Cond.methodLink "FatBalance$Mixture" (62 : Nat) ({ cls := "FatBalance$Mixture", name := "product", desc := "(III)J" } : Jvm.MethodName) ∈ kT := kT_1 (i := 214) (by decide +kernel) (by decide +kernel)
theorem wd_142 : Cond.instanceMethod ({ cls := "FatBalance$Mixture", name := "doubleArea", desc := "(III)J" } : Jvm.MethodName) ∈ kT := kT_1 (i := 220) (by decide +kernel) (by decide +kernel)
theorem wd_143 : Cond.selects "FatBalance$Mixture" ({ cls := "FatBalance$Mixture", name := "doubleArea", desc := "(III)J" } : Jvm.MethodName) ({ cls := "FatBalance$Mixture", name := "doubleArea", desc := "(III)J" } : Jvm.MethodName) ∈ kT := kT_p (i := 15) (by decide +kernel) (by decide +kernel)
theorem wd_144 : Cond.methodLink "FatBalance$Mixture" (66 : Nat) ({ cls := "FatBalance$Mixture", name := "doubleArea", desc := "(III)J" } : Jvm.MethodName) ∈ kT := kT_1 (i := 218) (by decide +kernel) (by decide +kernel)
theorem wd_145 : Cond.code ({ cls := "FatBalance$Mixture", name := "product", desc := "(III)J" } : Jvm.MethodName) prog_2_method_15_code (4 : Nat) (Option.some FieldType.long) ∈ kT := kT_1 (i := 217) (by decide +kernel) (by decide +kernel)
theorem wd_146 : Cond.code ({ cls := "FatBalance$Mixture", name := "doubleArea", desc := "(III)J" } : Jvm.MethodName) prog_2_method_16_code (4 : Nat) (Option.some FieldType.long) ∈ kT := kT_1 (i := 221) (by decide +kernel) (by decide +kernel)
theorem wd_147 : Cond.code ({ cls := "FatBalance$Mixture", name := "tryThree", desc := "(III)V" } : Jvm.MethodName) prog_2_method_10_code (8 : Nat) (Option.none : Option FieldType) ∈ kT := kT_1 (i := 225) (by decide +kernel) (by decide +kernel)
theorem wd_148 : Cond.constantLong "FatBalance$Mixture" (69 : Nat) (-1 : Int64) ∈ kT := kT_1 (i := 226) (by decide +kernel) (by decide +kernel)
theorem wd_149 : Cond.code ({ cls := "FatBalance", name := "share", desc := "(II)J" } : Jvm.MethodName) prog_1_method_7_code (3 : Nat) (Option.some FieldType.long) ∈ kT := kT_1 (i := 230) (by decide +kernel) (by decide +kernel)
theorem wd_150 : Cond.instanceMethod ({ cls := "FatBalance$Mixture", name := "isMet", desc := "()Z" } : Jvm.MethodName) ∈ kT := kT_1 (i := 232) (by decide +kernel) (by decide +kernel)
theorem wd_151 : Cond.selects "FatBalance$Mixture" ({ cls := "FatBalance$Mixture", name := "isMet", desc := "()Z" } : Jvm.MethodName) ({ cls := "FatBalance$Mixture", name := "isMet", desc := "()Z" } : Jvm.MethodName) ∈ kT := kT_1 (i := 233) (by decide +kernel) (by decide +kernel)
theorem wd_152 : Cond.methodLink "FatBalance" (108 : Nat) ({ cls := "FatBalance$Mixture", name := "isMet", desc := "()Z" } : Jvm.MethodName) ∈ kT := kT_1 (i := 231) (by decide +kernel) (by decide +kernel)
theorem wd_153 : Cond.instanceMethod ({ cls := "FatBalance$Mixture", name := "aboveOf", desc := "(I)J" } : Jvm.MethodName) ∈ kT := kT_1 (i := 236) (by decide +kernel) (by decide +kernel)
theorem wd_154 : Cond.selects "FatBalance$Mixture" ({ cls := "FatBalance$Mixture", name := "aboveOf", desc := "(I)J" } : Jvm.MethodName) ({ cls := "FatBalance$Mixture", name := "aboveOf", desc := "(I)J" } : Jvm.MethodName) ∈ kT := kT_1 (i := 237) (by decide +kernel) (by decide +kernel)
theorem wd_155 : Cond.methodLink "FatBalance" (115 : Nat) ({ cls := "FatBalance$Mixture", name := "aboveOf", desc := "(I)J" } : Jvm.MethodName) ∈ kT := kT_1 (i := 235) (by decide +kernel) (by decide +kernel)
theorem wd_156 : Cond.instanceMethod ({ cls := "FatBalance$Mixture", name := "belowOfAll", desc := "()J" } : Jvm.MethodName) ∈ kT := kT_2 (i := 0) (by decide +kernel) (by decide +kernel)
theorem wd_157 : Cond.selects "FatBalance$Mixture" ({ cls := "FatBalance$Mixture", name := "belowOfAll", desc := "()J" } : Jvm.MethodName) ({ cls := "FatBalance$Mixture", name := "belowOfAll", desc := "()J" } : Jvm.MethodName) ∈ kT := kT_2 (i := 1) (by decide +kernel) (by decide +kernel)
theorem wd_158 : Cond.methodLink "FatBalance" (119 : Nat) ({ cls := "FatBalance$Mixture", name := "belowOfAll", desc := "()J" } : Jvm.MethodName) ∈ kT := kT_1 (i := 239) (by decide +kernel) (by decide +kernel)
theorem wd_159 : Cond.static ({ cls := "FatBalance", name := "reducedPart", desc := "(JJI)J" } : Jvm.MethodName) ∈ kT := kT_2 (i := 4) (by decide +kernel) (by decide +kernel)
theorem wd_160 : Cond.methodLink "FatBalance" (123 : Nat) ({ cls := "FatBalance", name := "reducedPart", desc := "(JJI)J" } : Jvm.MethodName) ∈ kT := kT_2 (i := 3) (by decide +kernel) (by decide +kernel)
theorem wd_161 : Cond.code ({ cls := "FatBalance$Mixture", name := "isMet", desc := "()Z" } : Jvm.MethodName) prog_2_method_4_code (1 : Nat) (Option.some FieldType.boolean) ∈ kT := kT_1 (i := 234) (by decide +kernel) (by decide +kernel)
theorem wd_162 : Cond.code ({ cls := "FatBalance$Mixture", name := "aboveOf", desc := "(I)J" } : Jvm.MethodName) prog_2_method_5_code (3 : Nat) (Option.some FieldType.long) ∈ kT := kT_1 (i := 238) (by decide +kernel) (by decide +kernel)
theorem wd_163 : Cond.code ({ cls := "FatBalance$Mixture", name := "belowOfAll", desc := "()J" } : Jvm.MethodName) prog_2_method_6_code (1 : Nat) (Option.some FieldType.long) ∈ kT := kT_2 (i := 2) (by decide +kernel) (by decide +kernel)
theorem wd_164 : Cond.code ({ cls := "FatBalance", name := "reducedPart", desc := "(JJI)J" } : Jvm.MethodName) prog_1_method_26_code (7 : Nat) (Option.some FieldType.long) ∈ kT := kT_2 (i := 5) (by decide +kernel) (by decide +kernel)
theorem wd_165 : Cond.static ({ cls := "FatBalance", name := "commonDivisor", desc := "(JJ)J" } : Jvm.MethodName) ∈ kT := kT_2 (i := 7) (by decide +kernel) (by decide +kernel)
theorem wd_166 : Cond.methodLink "FatBalance" (178 : Nat) ({ cls := "FatBalance", name := "commonDivisor", desc := "(JJ)J" } : Jvm.MethodName) ∈ kT := kT_2 (i := 6) (by decide +kernel) (by decide +kernel)
theorem wd_167 : Cond.code ({ cls := "FatBalance", name := "commonDivisor", desc := "(JJ)J" } : Jvm.MethodName) prog_1_method_27_code (11 : Nat) (Option.some FieldType.long) ∈ kT := kT_2 (i := 8) (by decide +kernel) (by decide +kernel)
theorem wd_168 : Cond.methodLink "FatBalance" (148 : Nat) ({ cls := "java/lang/Math", name := "max", desc := "(JJ)J" } : Jvm.MethodName) ∈ kT := kT_2 (i := 9) (by decide +kernel) (by decide +kernel)
theorem wd_169 : Cond.code ({ cls := "java/lang/Math", name := "max", desc := "(JJ)J" } : Jvm.MethodName) prog_6_method_66_code (4 : Nat) (Option.some FieldType.long) ∈ kT := kT_2 (i := 11) (by decide +kernel) (by decide +kernel)
theorem wd_170 : Cond.static ({ cls := "java/lang/Math", name := "max", desc := "(JJ)J" } : Jvm.MethodName) ∈ kT := kT_2 (i := 10) (by decide +kernel) (by decide +kernel)
theorem wd_171 : Cond.code ({ cls := "FatBalance", name := "yieldOf", desc := "(III)J" } : Jvm.MethodName) prog_1_method_8_code (8 : Nat) (Option.some FieldType.long) ∈ kT := kT_2 (i := 15) (by decide +kernel) (by decide +kernel)
theorem wd_172 : Cond.constantLong "FatBalance" (127 : Nat) (2 : Int64) ∈ kT := kT_2 (i := 16) (by decide +kernel) (by decide +kernel)
theorem wd_173 : Cond.instanceMethod ({ cls := "FatBalance", name := "yieldAbove", desc := "(II)J" } : Jvm.MethodName) ∈ kT := kT_2 (i := 19) (by decide +kernel) (by decide +kernel)
theorem wd_174 : Cond.selects "FatBalance" ({ cls := "FatBalance", name := "yieldAbove", desc := "(II)J" } : Jvm.MethodName) ({ cls := "FatBalance", name := "yieldAbove", desc := "(II)J" } : Jvm.MethodName) ∈ kT := kT_p (i := 17) (by decide +kernel) (by decide +kernel)
theorem wd_175 : Cond.methodLink "FatBalance" (129 : Nat) ({ cls := "FatBalance", name := "yieldAbove", desc := "(II)J" } : Jvm.MethodName) ∈ kT := kT_2 (i := 17) (by decide +kernel) (by decide +kernel)
theorem wd_176 : Cond.static ({ cls := "FatBalance", name := "yieldBelow", desc := "(I)J" } : Jvm.MethodName) ∈ kT := kT_2 (i := 25) (by decide +kernel) (by decide +kernel)
theorem wd_177 : Cond.methodLink "FatBalance" (133 : Nat) ({ cls := "FatBalance", name := "yieldBelow", desc := "(I)J" } : Jvm.MethodName) ∈ kT := kT_2 (i := 24) (by decide +kernel) (by decide +kernel)
theorem wd_178 : Cond.static ({ cls := "FatBalance", name := "gramsOf", desc := "(JJ)J" } : Jvm.MethodName) ∈ kT := kT_2 (i := 31) (by decide +kernel) (by decide +kernel)
theorem wd_179 : Cond.methodLink "FatBalance" (136 : Nat) ({ cls := "FatBalance", name := "gramsOf", desc := "(JJ)J" } : Jvm.MethodName) ∈ kT := kT_2 (i := 30) (by decide +kernel) (by decide +kernel)
theorem wd_180 : Cond.code ({ cls := "FatBalance", name := "yieldAbove", desc := "(II)J" } : Jvm.MethodName) prog_1_method_20_code (9 : Nat) (Option.some FieldType.long) ∈ kT := kT_2 (i := 20) (by decide +kernel) (by decide +kernel)
theorem wd_181 : Cond.constantLong "FatBalance" (160 : Nat) (93 : Int64) ∈ kT := kT_2 (i := 21) (by decide +kernel) (by decide +kernel)
theorem wd_182 : Cond.constantLong "FatBalance" (162 : Nat) (75 : Int64) ∈ kT := kT_2 (i := 22) (by decide +kernel) (by decide +kernel)
theorem wd_183 : Cond.constantLong "FatBalance" (164 : Nat) (109 : Int64) ∈ kT := kT_2 (i := 23) (by decide +kernel) (by decide +kernel)
theorem wd_184 : Cond.code ({ cls := "FatBalance", name := "yieldBelow", desc := "(I)J" } : Jvm.MethodName) prog_1_method_21_code (1 : Nat) (Option.some FieldType.long) ∈ kT := kT_2 (i := 26) (by decide +kernel) (by decide +kernel)
theorem wd_185 : Cond.constantLong "FatBalance" (166 : Nat) (63000000 : Int64) ∈ kT := kT_2 (i := 27) (by decide +kernel) (by decide +kernel)
theorem wd_186 : Cond.constantLong "FatBalance" (168 : Nat) (8200 : Int64) ∈ kT := kT_2 (i := 28) (by decide +kernel) (by decide +kernel)
theorem wd_187 : Cond.constantLong "FatBalance" (170 : Nat) (9700 : Int64) ∈ kT := kT_2 (i := 29) (by decide +kernel) (by decide +kernel)
theorem wd_188 : Cond.code ({ cls := "FatBalance", name := "gramsOf", desc := "(JJ)J" } : Jvm.MethodName) prog_1_method_25_code (4 : Nat) (Option.some FieldType.long) ∈ kT := kT_2 (i := 32) (by decide +kernel) (by decide +kernel)
theorem wd_189 : Cond.constantLong "FatBalance" (176 : Nat) (2000 : Int64) ∈ kT := kT_2 (i := 33) (by decide +kernel) (by decide +kernel)
theorem wd_190 : Cond.code ({ cls := "FatBalance", name := "loss", desc := "(I)J" } : Jvm.MethodName) prog_1_method_9_code (2 : Nat) (Option.some FieldType.long) ∈ kT := kT_2 (i := 37) (by decide +kernel) (by decide +kernel)
theorem wd_191 : Cond.code ({ cls := "FatBalance", name := "penalty", desc := "(JJ)Z" } : Jvm.MethodName) prog_1_method_10_code (5 : Nat) (Option.some FieldType.boolean) ∈ kT := kT_2 (i := 41) (by decide +kernel) (by decide +kernel)
theorem wd_192 : Cond.code ({ cls := "FatBalance", name := "pay", desc := "(I)J" } : Jvm.MethodName) prog_1_method_11_code (5 : Nat) (Option.some FieldType.long) ∈ kT := kT_2 (i := 45) (by decide +kernel) (by decide +kernel)
theorem wd_193 : Cond.constantLong "FatBalance" (139 : Nat) (4 : Int64) ∈ kT := kT_2 (i := 46) (by decide +kernel) (by decide +kernel)
theorem wd_194 : Cond.constantLong "FatBalance" (141 : Nat) (3 : Int64) ∈ kT := kT_2 (i := 47) (by decide +kernel) (by decide +kernel)
theorem wd_195 : Cond.constantLong "FatBalance" (143 : Nat) (1000 : Int64) ∈ kT := kT_2 (i := 48) (by decide +kernel) (by decide +kernel)
theorem wd_196 : Cond.static ({ cls := "FatBalance", name := "hundredthsRoundedUp", desc := "(J)J" } : Jvm.MethodName) ∈ kT := kT_2 (i := 50) (by decide +kernel) (by decide +kernel)
theorem wd_197 : Cond.methodLink "FatBalance" (145 : Nat) ({ cls := "FatBalance", name := "hundredthsRoundedUp", desc := "(J)J" } : Jvm.MethodName) ∈ kT := kT_2 (i := 49) (by decide +kernel) (by decide +kernel)
theorem wd_198 : Cond.code ({ cls := "FatBalance", name := "hundredthsRoundedUp", desc := "(J)J" } : Jvm.MethodName) prog_1_method_24_code (2 : Nat) (Option.some FieldType.long) ∈ kT := kT_2 (i := 51) (by decide +kernel) (by decide +kernel)
theorem wd_199 : Cond.constantLong "FatBalance" (172 : Nat) (99 : Int64) ∈ kT := kT_2 (i := 52) (by decide +kernel) (by decide +kernel)
theorem wd_200 : Cond.constantLong "FatBalance" (174 : Nat) (100 : Int64) ∈ kT := kT_2 (i := 53) (by decide +kernel) (by decide +kernel)
theorem wd_201 : Cond.code ({ cls := "FatBalance", name := "efficiency", desc := "(JJJ)Z" } : Jvm.MethodName) prog_1_method_12_code (9 : Nat) (Option.some FieldType.boolean) ∈ kT := kT_2 (i := 57) (by decide +kernel) (by decide +kernel)
theorem wd_202 : Cond.instanceMethod ({ cls := "FatBalance$Separator", name := "put", desc := "(JJ)Z" } : Jvm.MethodName) ∈ kT := kT_2 (i := 59) (by decide +kernel) (by decide +kernel)
theorem wd_203 : Cond.selects "FatBalance$Separator" ({ cls := "FatBalance$Separator", name := "put", desc := "(JJ)Z" } : Jvm.MethodName) ({ cls := "FatBalance$Separator", name := "put", desc := "(JJ)Z" } : Jvm.MethodName) ∈ kT := kT_2 (i := 60) (by decide +kernel) (by decide +kernel)
theorem wd_204 : Cond.methodLink "FatBalance" (153 : Nat) ({ cls := "FatBalance$Separator", name := "put", desc := "(JJ)Z" } : Jvm.MethodName) ∈ kT := kT_2 (i := 58) (by decide +kernel) (by decide +kernel)
theorem wd_205 : Cond.code ({ cls := "FatBalance$Separator", name := "put", desc := "(JJ)Z" } : Jvm.MethodName) prog_3_method_2_code (7 : Nat) (Option.some FieldType.boolean) ∈ kT := kT_2 (i := 61) (by decide +kernel) (by decide +kernel)
theorem wd_206 : Cond.code ({ cls := "FatBalance", name := "clearChosen", desc := "()V" } : Jvm.MethodName) prog_1_method_13_code (1 : Nat) (Option.none : Option FieldType) ∈ kT := kT_2 (i := 65) (by decide +kernel) (by decide +kernel)
theorem wd_207 : Cond.code ({ cls := "FatBalanceModel", name := "<init>", desc := "()V" } : Jvm.MethodName) prog_5_method_1_code (1 : Nat) (Option.none : Option FieldType) ∈ kT := kT_2 (i := 70) (by decide +kernel) (by decide +kernel)
theorem wd_208 : Cond.methodLink "FatBalanceModel" (1 : Nat) ({ cls := "java/lang/Object", name := "<init>", desc := "()V" } : Jvm.MethodName) ∈ kT := kT_2 (i := 71) (by decide +kernel) (by decide +kernel)
theorem wd_209 : Cond.fieldLink "FatBalanceModel" (9 : Nat) "FatBalanceModel" "kilos" "[J" ∈ kT := kT_2 (i := 72) (by decide +kernel) (by decide +kernel)
theorem wd_210 : Cond.fieldLink "FatBalanceModel" (13 : Nat) "FatBalanceModel" "fats" "[J" ∈ kT := kT_2 (i := 73) (by decide +kernel) (by decide +kernel)
theorem wd_211 : Cond.fieldLink "FatBalanceModel" (16 : Nat) "FatBalanceModel" "solids" "[J" ∈ kT := kT_2 (i := 74) (by decide +kernel) (by decide +kernel)
theorem wd_212 : Cond.fieldLink "FatBalanceModel" (19 : Nat) "FatBalanceModel" "parted" "[Z" ∈ kT := kT_2 (i := 75) (by decide +kernel) (by decide +kernel)
theorem wd_213 : Cond.fieldLink "FatBalanceModel" (23 : Nat) "FatBalanceModel" "losses" "[J" ∈ kT := kT_2 (i := 77) (by decide +kernel) (by decide +kernel)
theorem wd_214 : Cond.fieldLink "FatBalanceModel" (26 : Nat) "FatBalanceModel" "chosen" "[I" ∈ kT := kT_2 (i := 79) (by decide +kernel) (by decide +kernel)
theorem wd_215 : Cond.fieldLink "FatBalanceModel" (30 : Nat) "FatBalanceModel" "rowAt" "[J" ∈ kT := kT_2 (i := 81) (by decide +kernel) (by decide +kernel)
theorem wd_216 : Cond.fieldLink "FatBalanceModel" (33 : Nat) "FatBalanceModel" "rowFat" "[J" ∈ kT := kT_2 (i := 82) (by decide +kernel) (by decide +kernel)
theorem wd_217 : Cond.fieldLink "FatBalanceModel" (36 : Nat) "FatBalanceModel" "penaltyFrom" "[J" ∈ kT := kT_2 (i := 84) (by decide +kernel) (by decide +kernel)
theorem wd_218 : Cond.fieldLink "FatBalanceModel" (39 : Nat) "FatBalanceModel" "penaltyCents" "[J" ∈ kT := kT_2 (i := 85) (by decide +kernel) (by decide +kernel)
theorem wd_219 : Cond.fieldLink "FatBalanceModel" (42 : Nat) "FatBalanceModel" "metLots" "[I" ∈ kT := kT_2 (i := 88) (by decide +kernel) (by decide +kernel)
theorem wd_220 : Cond.fieldLink "FatBalanceModel" (45 : Nat) "FatBalanceModel" "metAbove" "[J" ∈ kT := kT_2 (i := 89) (by decide +kernel) (by decide +kernel)
theorem wd_221 : Cond.fieldLink "FatBalanceModel" (48 : Nat) "FatBalanceModel" "trial" "[J" ∈ kT := kT_2 (i := 92) (by decide +kernel) (by decide +kernel)
theorem wd_222 : Cond.code ({ cls := "FatBalanceModel", name := "lot", desc := "(JJJ)I" } : Jvm.MethodName) prog_5_method_5_code (7 : Nat) (Option.some FieldType.int) ∈ kT := kT_2 (i := 139) (by decide +kernel) (by decide +kernel)
theorem wd_223 : Cond.constantLong "FatBalanceModel" (59 : Nat) (1000000 : Int64) ∈ kT := kT_2 (i := 140) (by decide +kernel) (by decide +kernel)
theorem wd_224 : Cond.initialized "FatBalanceModel" ∈ kT := kT_1 (i := 4) (by decide +kernel) (by decide +kernel)
theorem wd_225 : Cond.static ({ cls := "FatBalanceModel", name := "parts", desc := "(JJ)J" } : Jvm.MethodName) ∈ kT := kT_2 (i := 142) (by decide +kernel) (by decide +kernel)
theorem wd_226 : Cond.methodLink "FatBalanceModel" (61 : Nat) ({ cls := "FatBalanceModel", name := "parts", desc := "(JJ)J" } : Jvm.MethodName) ∈ kT := kT_2 (i := 141) (by decide +kernel) (by decide +kernel)
theorem wd_227 : Cond.fieldLink "FatBalanceModel" (51 : Nat) "FatBalanceModel" "lots" "I" ∈ kT := kT_2 (i := 76) (by decide +kernel) (by decide +kernel)
theorem wd_228 : Cond.instanceMethod ({ cls := "FatBalanceModel", name := "put", desc := "(JJJ)I" } : Jvm.MethodName) ∈ kT := kT_2 (i := 148) (by decide +kernel) (by decide +kernel)
theorem wd_229 : Cond.selects "FatBalanceModel" ({ cls := "FatBalanceModel", name := "put", desc := "(JJJ)I" } : Jvm.MethodName) ({ cls := "FatBalanceModel", name := "put", desc := "(JJJ)I" } : Jvm.MethodName) ∈ kT := kT_p (i := 18) (by decide +kernel) (by decide +kernel)
theorem wd_230 : Cond.methodLink "FatBalanceModel" (65 : Nat) ({ cls := "FatBalanceModel", name := "put", desc := "(JJJ)I" } : Jvm.MethodName) ∈ kT := kT_2 (i := 146) (by decide +kernel) (by decide +kernel)
theorem wd_231 : Cond.code ({ cls := "FatBalanceModel", name := "parts", desc := "(JJ)J" } : Jvm.MethodName) prog_5_method_3_code (5 : Nat) (Option.some FieldType.long) ∈ kT := kT_2 (i := 143) (by decide +kernel) (by decide +kernel)
theorem wd_232 : Cond.constantLong "FatBalanceModel" (55 : Nat) (10000 : Int64) ∈ kT := kT_2 (i := 144) (by decide +kernel) (by decide +kernel)
theorem wd_233 : Cond.constantLong "FatBalanceModel" (57 : Nat) (-1 : Int64) ∈ kT := kT_2 (i := 145) (by decide +kernel) (by decide +kernel)
theorem wd_234 : Cond.code ({ cls := "FatBalanceModel", name := "put", desc := "(JJJ)I" } : Jvm.MethodName) prog_5_method_4_code (7 : Nat) (Option.some FieldType.int) ∈ kT := kT_2 (i := 149) (by decide +kernel) (by decide +kernel)
theorem wd_235 : Cond.code ({ cls := "FatBalanceModel", name := "solids", desc := "(IJJ)Z" } : Jvm.MethodName) prog_5_method_6_code (6 : Nat) (Option.some FieldType.boolean) ∈ kT := kT_2 (i := 153) (by decide +kernel) (by decide +kernel)
theorem wd_236 : Cond.instanceMethod ({ cls := "FatBalanceModel", name := "isLot", desc := "(I)Z" } : Jvm.MethodName) ∈ kT := kT_2 (i := 156) (by decide +kernel) (by decide +kernel)
theorem wd_237 : Cond.selects "FatBalanceModel" ({ cls := "FatBalanceModel", name := "isLot", desc := "(I)Z" } : Jvm.MethodName) ({ cls := "FatBalanceModel", name := "isLot", desc := "(I)Z" } : Jvm.MethodName) ∈ kT := kT_p (i := 19) (by decide +kernel) (by decide +kernel)
theorem wd_238 : Cond.methodLink "FatBalanceModel" (69 : Nat) ({ cls := "FatBalanceModel", name := "isLot", desc := "(I)Z" } : Jvm.MethodName) ∈ kT := kT_2 (i := 154) (by decide +kernel) (by decide +kernel)
theorem wd_239 : Cond.code ({ cls := "FatBalanceModel", name := "isLot", desc := "(I)Z" } : Jvm.MethodName) prog_5_method_2_code (2 : Nat) (Option.some FieldType.boolean) ∈ kT := kT_2 (i := 157) (by decide +kernel) (by decide +kernel)
theorem wd_240 : Cond.code ({ cls := "FatBalanceModel", name := "separate", desc := "(IJJ)I" } : Jvm.MethodName) prog_5_method_8_code (22 : Nat) (Option.some FieldType.int) ∈ kT := kT_2 (i := 161) (by decide +kernel) (by decide +kernel)
theorem wd_241 : Cond.instanceMethod ({ cls := "FatBalanceModel", name := "left", desc := "(J)J" } : Jvm.MethodName) ∈ kT := kT_2 (i := 164) (by decide +kernel) (by decide +kernel)
theorem wd_242 : Cond.selects "FatBalanceModel" ({ cls := "FatBalanceModel", name := "left", desc := "(J)J" } : Jvm.MethodName) ({ cls := "FatBalanceModel", name := "left", desc := "(J)J" } : Jvm.MethodName) ∈ kT := kT_p (i := 20) (by decide +kernel) (by decide +kernel)
theorem wd_243 : Cond.methodLink "FatBalanceModel" (76 : Nat) ({ cls := "FatBalanceModel", name := "left", desc := "(J)J" } : Jvm.MethodName) ∈ kT := kT_2 (i := 162) (by decide +kernel) (by decide +kernel)
theorem wd_244 : Cond.fieldLink "FatBalanceModel" (80 : Nat) "FatBalanceModel" "separations" "I" ∈ kT := kT_2 (i := 78) (by decide +kernel) (by decide +kernel)
theorem wd_245 : Cond.fieldLink "FatBalanceModel" (83 : Nat) "FatBalanceModel" "count" "I" ∈ kT := kT_2 (i := 80) (by decide +kernel) (by decide +kernel)
theorem wd_246 : Cond.code ({ cls := "FatBalanceModel", name := "left", desc := "(J)J" } : Jvm.MethodName) prog_5_method_7_code (10 : Nat) (Option.some FieldType.long) ∈ kT := kT_2 (i := 165) (by decide +kernel) (by decide +kernel)
theorem wd_247 : Cond.fieldLink "FatBalanceModel" (73 : Nat) "FatBalanceModel" "rows" "I" ∈ kT := kT_2 (i := 83) (by decide +kernel) (by decide +kernel)
theorem wd_248 : Cond.code ({ cls := "FatBalanceModel", name := "choose", desc := "(I)Z" } : Jvm.MethodName) prog_5_method_9_code (4 : Nat) (Option.some FieldType.boolean) ∈ kT := kT_2 (i := 169) (by decide +kernel) (by decide +kernel)
theorem wd_249 : Cond.code ({ cls := "FatBalanceModel", name := "clearChosen", desc := "()V" } : Jvm.MethodName) prog_5_method_10_code (1 : Nat) (Option.none : Option FieldType) ∈ kT := kT_2 (i := 173) (by decide +kernel) (by decide +kernel)
theorem wd_250 : Cond.code ({ cls := "FatBalanceModel", name := "standard", desc := "(JJJ)I" } : Jvm.MethodName) prog_5_method_16_code (14 : Nat) (Option.some FieldType.int) ∈ kT := kT_2 (i := 177) (by decide +kernel) (by decide +kernel)
theorem wd_251 : Cond.fieldLink "FatBalanceModel" (86 : Nat) "FatBalanceModel" "met" "Z" ∈ kT := kT_2 (i := 87) (by decide +kernel) (by decide +kernel)
theorem wd_252 : Cond.instanceMethod ({ cls := "FatBalanceModel", name := "clearTrial", desc := "()V" } : Jvm.MethodName) ∈ kT := kT_2 (i := 180) (by decide +kernel) (by decide +kernel)
theorem wd_253 : Cond.selects "FatBalanceModel" ({ cls := "FatBalanceModel", name := "clearTrial", desc := "()V" } : Jvm.MethodName) ({ cls := "FatBalanceModel", name := "clearTrial", desc := "()V" } : Jvm.MethodName) ∈ kT := kT_p (i := 21) (by decide +kernel) (by decide +kernel)
theorem wd_254 : Cond.methodLink "FatBalanceModel" (98 : Nat) ({ cls := "FatBalanceModel", name := "clearTrial", desc := "()V" } : Jvm.MethodName) ∈ kT := kT_2 (i := 178) (by decide +kernel) (by decide +kernel)
theorem wd_255 : Cond.instanceMethod ({ cls := "FatBalanceModel", name := "take", desc := "(J)V" } : Jvm.MethodName) ∈ kT := kT_2 (i := 184) (by decide +kernel) (by decide +kernel)
theorem wd_256 : Cond.selects "FatBalanceModel" ({ cls := "FatBalanceModel", name := "take", desc := "(J)V" } : Jvm.MethodName) ({ cls := "FatBalanceModel", name := "take", desc := "(J)V" } : Jvm.MethodName) ∈ kT := kT_p (i := 22) (by decide +kernel) (by decide +kernel)
theorem wd_257 : Cond.methodLink "FatBalanceModel" (101 : Nat) ({ cls := "FatBalanceModel", name := "take", desc := "(J)V" } : Jvm.MethodName) ∈ kT := kT_2 (i := 182) (by decide +kernel) (by decide +kernel)
theorem wd_258 : Cond.instanceMethod ({ cls := "FatBalanceModel", name := "between", desc := "(IIJJ)V" } : Jvm.MethodName) ∈ kT := kT_2 (i := 188) (by decide +kernel) (by decide +kernel)
theorem wd_259 : Cond.selects "FatBalanceModel" ({ cls := "FatBalanceModel", name := "between", desc := "(IIJJ)V" } : Jvm.MethodName) ({ cls := "FatBalanceModel", name := "between", desc := "(IIJJ)V" } : Jvm.MethodName) ∈ kT := kT_p (i := 23) (by decide +kernel) (by decide +kernel)
theorem wd_260 : Cond.methodLink "FatBalanceModel" (105 : Nat) ({ cls := "FatBalanceModel", name := "between", desc := "(IIJJ)V" } : Jvm.MethodName) ∈ kT := kT_2 (i := 186) (by decide +kernel) (by decide +kernel)
theorem wd_261 : Cond.instanceMethod ({ cls := "FatBalanceModel", name := "inside", desc := "(IIIJJ)V" } : Jvm.MethodName) ∈ kT := kT_2 (i := 195) (by decide +kernel) (by decide +kernel)
theorem wd_262 : Cond.selects "FatBalanceModel" ({ cls := "FatBalanceModel", name := "inside", desc := "(IIIJJ)V" } : Jvm.MethodName) ({ cls := "FatBalanceModel", name := "inside", desc := "(IIIJJ)V" } : Jvm.MethodName) ∈ kT := kT_p (i := 24) (by decide +kernel) (by decide +kernel)
theorem wd_263 : Cond.methodLink "FatBalanceModel" (109 : Nat) ({ cls := "FatBalanceModel", name := "inside", desc := "(IIIJJ)V" } : Jvm.MethodName) ∈ kT := kT_2 (i := 193) (by decide +kernel) (by decide +kernel)
theorem wd_264 : Cond.fieldLink "FatBalanceModel" (113 : Nat) "FatBalanceModel" "metCount" "I" ∈ kT := kT_2 (i := 91) (by decide +kernel) (by decide +kernel)
theorem wd_265 : Cond.code ({ cls := "FatBalanceModel", name := "clearTrial", desc := "()V" } : Jvm.MethodName) prog_5_method_12_code (2 : Nat) (Option.none : Option FieldType) ∈ kT := kT_2 (i := 181) (by decide +kernel) (by decide +kernel)
theorem wd_266 : Cond.code ({ cls := "FatBalanceModel", name := "take", desc := "(J)V" } : Jvm.MethodName) prog_5_method_11_code (10 : Nat) (Option.none : Option FieldType) ∈ kT := kT_2 (i := 185) (by decide +kernel) (by decide +kernel)
theorem wd_267 : Cond.fieldLink "FatBalanceModel" (90 : Nat) "FatBalanceModel" "metBelow" "J" ∈ kT := kT_2 (i := 90) (by decide +kernel) (by decide +kernel)
theorem wd_268 : Cond.code ({ cls := "FatBalanceModel", name := "between", desc := "(IIJJ)V" } : Jvm.MethodName) prog_5_method_14_code (19 : Nat) (Option.none : Option FieldType) ∈ kT := kT_2 (i := 189) (by decide +kernel) (by decide +kernel)
theorem wd_269 : Cond.static ({ cls := "FatBalanceModel", name := "cross", desc := "(JJJJ)J" } : Jvm.MethodName) ∈ kT := kT_2 (i := 191) (by decide +kernel) (by decide +kernel)
theorem wd_270 : Cond.methodLink "FatBalanceModel" (94 : Nat) ({ cls := "FatBalanceModel", name := "cross", desc := "(JJJJ)J" } : Jvm.MethodName) ∈ kT := kT_2 (i := 190) (by decide +kernel) (by decide +kernel)
theorem wd_271 : Cond.code ({ cls := "FatBalanceModel", name := "cross", desc := "(JJJJ)J" } : Jvm.MethodName) prog_5_method_13_code (8 : Nat) (Option.some FieldType.long) ∈ kT := kT_2 (i := 192) (by decide +kernel) (by decide +kernel)
theorem wd_272 : Cond.code ({ cls := "FatBalanceModel", name := "inside", desc := "(IIIJJ)V" } : Jvm.MethodName) prog_5_method_15_code (26 : Nat) (Option.none : Option FieldType) ∈ kT := kT_2 (i := 196) (by decide +kernel) (by decide +kernel)
theorem wd_273 : Cond.code ({ cls := "FatBalanceModel", name := "share", desc := "(II)J" } : Jvm.MethodName) prog_5_method_18_code (4 : Nat) (Option.some FieldType.long) ∈ kT := kT_2 (i := 200) (by decide +kernel) (by decide +kernel)
theorem wd_274 : Cond.static ({ cls := "FatBalanceModel", name := "reduced", desc := "(JJI)J" } : Jvm.MethodName) ∈ kT := kT_2 (i := 202) (by decide +kernel) (by decide +kernel)
theorem wd_275 : Cond.methodLink "FatBalanceModel" (116 : Nat) ({ cls := "FatBalanceModel", name := "reduced", desc := "(JJI)J" } : Jvm.MethodName) ∈ kT := kT_2 (i := 201) (by decide +kernel) (by decide +kernel)
theorem wd_276 : Cond.code ({ cls := "FatBalanceModel", name := "reduced", desc := "(JJI)J" } : Jvm.MethodName) prog_5_method_17_code (11 : Nat) (Option.some FieldType.long) ∈ kT := kT_2 (i := 203) (by decide +kernel) (by decide +kernel)
theorem wd_277 : Cond.code ({ cls := "FatBalanceModel", name := "yieldOf", desc := "(III)J" } : Jvm.MethodName) prog_5_method_19_code (14 : Nat) (Option.some FieldType.long) ∈ kT := kT_2 (i := 207) (by decide +kernel) (by decide +kernel)
theorem wd_278 : Cond.constantLong "FatBalanceModel" (120 : Nat) (93 : Int64) ∈ kT := kT_2 (i := 208) (by decide +kernel) (by decide +kernel)
theorem wd_279 : Cond.constantLong "FatBalanceModel" (122 : Nat) (75 : Int64) ∈ kT := kT_2 (i := 209) (by decide +kernel) (by decide +kernel)
theorem wd_280 : Cond.constantLong "FatBalanceModel" (124 : Nat) (109 : Int64) ∈ kT := kT_2 (i := 210) (by decide +kernel) (by decide +kernel)
theorem wd_281 : Cond.constantLong "FatBalanceModel" (126 : Nat) (63000000 : Int64) ∈ kT := kT_2 (i := 211) (by decide +kernel) (by decide +kernel)
theorem wd_282 : Cond.constantLong "FatBalanceModel" (128 : Nat) (8200 : Int64) ∈ kT := kT_2 (i := 212) (by decide +kernel) (by decide +kernel)
theorem wd_283 : Cond.constantLong "FatBalanceModel" (130 : Nat) (9700 : Int64) ∈ kT := kT_2 (i := 213) (by decide +kernel) (by decide +kernel)
theorem wd_284 : Cond.constantLong "FatBalanceModel" (132 : Nat) (2000 : Int64) ∈ kT := kT_2 (i := 214) (by decide +kernel) (by decide +kernel)
theorem wd_285 : Cond.constantLong "FatBalanceModel" (134 : Nat) (2 : Int64) ∈ kT := kT_2 (i := 215) (by decide +kernel) (by decide +kernel)
theorem wd_286 : Cond.code ({ cls := "FatBalanceModel", name := "loss", desc := "(I)J" } : Jvm.MethodName) prog_5_method_20_code (2 : Nat) (Option.some FieldType.long) ∈ kT := kT_2 (i := 219) (by decide +kernel) (by decide +kernel)
theorem wd_287 : Cond.code ({ cls := "FatBalanceModel", name := "penalty", desc := "(JJ)Z" } : Jvm.MethodName) prog_5_method_21_code (5 : Nat) (Option.some FieldType.boolean) ∈ kT := kT_2 (i := 223) (by decide +kernel) (by decide +kernel)
theorem wd_288 : Cond.fieldLink "FatBalanceModel" (136 : Nat) "FatBalanceModel" "penalties" "I" ∈ kT := kT_2 (i := 86) (by decide +kernel) (by decide +kernel)
theorem wd_289 : Cond.code ({ cls := "FatBalanceModel", name := "pay", desc := "(I)J" } : Jvm.MethodName) prog_5_method_22_code (7 : Nat) (Option.some FieldType.long) ∈ kT := kT_2 (i := 227) (by decide +kernel) (by decide +kernel)
theorem wd_290 : Cond.constantLong "FatBalanceModel" (139 : Nat) (4 : Int64) ∈ kT := kT_2 (i := 228) (by decide +kernel) (by decide +kernel)
theorem wd_291 : Cond.constantLong "FatBalanceModel" (141 : Nat) (3 : Int64) ∈ kT := kT_2 (i := 229) (by decide +kernel) (by decide +kernel)
theorem wd_292 : Cond.constantLong "FatBalanceModel" (143 : Nat) (1000 : Int64) ∈ kT := kT_2 (i := 230) (by decide +kernel) (by decide +kernel)
theorem wd_293 : Cond.constantLong "FatBalanceModel" (145 : Nat) (99 : Int64) ∈ kT := kT_2 (i := 231) (by decide +kernel) (by decide +kernel)
theorem wd_294 : Cond.constantLong "FatBalanceModel" (147 : Nat) (100 : Int64) ∈ kT := kT_2 (i := 232) (by decide +kernel) (by decide +kernel)
theorem wd_295 : Cond.code ({ cls := "FatBalanceModel", name := "efficiency", desc := "(JJJ)Z" } : Jvm.MethodName) prog_5_method_23_code (12 : Nat) (Option.some FieldType.boolean) ∈ kT := kT_2 (i := 236) (by decide +kernel) (by decide +kernel)
theorem wd_296 : Cond.classLink "FatBalanceLaw" (7 : Nat) "FatBalance" ∈ kT := kT_1 (i := 6) (by decide +kernel) (by decide +kernel)
theorem wd_297 : Cond.instantiable "FatBalance" (14 : Nat) ∈ kT := kT_1 (i := 7) (by decide +kernel) (by decide +kernel)
theorem wd_298 : Cond.instanceMethod ({ cls := "FatBalance", name := "<init>", desc := "()V" } : Jvm.MethodName) ∈ kT := kT_1 (i := 9) (by decide +kernel) (by decide +kernel)
theorem wd_299 : Cond.methodLink "FatBalanceLaw" (9 : Nat) ({ cls := "FatBalance", name := "<init>", desc := "()V" } : Jvm.MethodName) ∈ kT := kT_1 (i := 8) (by decide +kernel) (by decide +kernel)
theorem wd_300 : Cond.classLink "FatBalanceLaw" (10 : Nat) "FatBalanceModel" ∈ kT := kT_2 (i := 66) (by decide +kernel) (by decide +kernel)
theorem wd_301 : Cond.instantiable "FatBalanceModel" (21 : Nat) ∈ kT := kT_2 (i := 67) (by decide +kernel) (by decide +kernel)
theorem wd_302 : Cond.instanceMethod ({ cls := "FatBalanceModel", name := "<init>", desc := "()V" } : Jvm.MethodName) ∈ kT := kT_2 (i := 69) (by decide +kernel) (by decide +kernel)
theorem wd_303 : Cond.methodLink "FatBalanceLaw" (12 : Nat) ({ cls := "FatBalanceModel", name := "<init>", desc := "()V" } : Jvm.MethodName) ∈ kT := kT_2 (i := 68) (by decide +kernel) (by decide +kernel)
theorem wd_304 : Cond.constantLong "FatBalanceLaw" (13 : Nat) (4294967295 : Int64) ∈ kT := kT_2 (i := 237) (by decide +kernel) (by decide +kernel)
theorem wd_305 : Cond.instanceMethod ({ cls := "FatBalance", name := "lot", desc := "(JJJ)I" } : Jvm.MethodName) ∈ kT := kT_1 (i := 111) (by decide +kernel) (by decide +kernel)
theorem wd_306 : Cond.selects "FatBalance" ({ cls := "FatBalance", name := "lot", desc := "(JJJ)I" } : Jvm.MethodName) ({ cls := "FatBalance", name := "lot", desc := "(JJJ)I" } : Jvm.MethodName) ∈ kT := kT_1 (i := 112) (by decide +kernel) (by decide +kernel)
theorem wd_307 : Cond.methodLink "FatBalanceLaw" (15 : Nat) ({ cls := "FatBalance", name := "lot", desc := "(JJJ)I" } : Jvm.MethodName) ∈ kT := kT_1 (i := 110) (by decide +kernel) (by decide +kernel)
theorem wd_308 : Cond.instanceMethod ({ cls := "FatBalanceModel", name := "lot", desc := "(JJJ)I" } : Jvm.MethodName) ∈ kT := kT_2 (i := 137) (by decide +kernel) (by decide +kernel)
theorem wd_309 : Cond.selects "FatBalanceModel" ({ cls := "FatBalanceModel", name := "lot", desc := "(JJJ)I" } : Jvm.MethodName) ({ cls := "FatBalanceModel", name := "lot", desc := "(JJJ)I" } : Jvm.MethodName) ∈ kT := kT_2 (i := 138) (by decide +kernel) (by decide +kernel)
theorem wd_310 : Cond.methodLink "FatBalanceLaw" (19 : Nat) ({ cls := "FatBalanceModel", name := "lot", desc := "(JJJ)I" } : Jvm.MethodName) ∈ kT := kT_2 (i := 136) (by decide +kernel) (by decide +kernel)
theorem wd_311 : Cond.instanceMethod ({ cls := "FatBalance", name := "solids", desc := "(IJJ)Z" } : Jvm.MethodName) ∈ kT := kT_1 (i := 128) (by decide +kernel) (by decide +kernel)
theorem wd_312 : Cond.selects "FatBalance" ({ cls := "FatBalance", name := "solids", desc := "(IJJ)Z" } : Jvm.MethodName) ({ cls := "FatBalance", name := "solids", desc := "(IJJ)Z" } : Jvm.MethodName) ∈ kT := kT_1 (i := 129) (by decide +kernel) (by decide +kernel)
theorem wd_313 : Cond.methodLink "FatBalanceLaw" (20 : Nat) ({ cls := "FatBalance", name := "solids", desc := "(IJJ)Z" } : Jvm.MethodName) ∈ kT := kT_1 (i := 127) (by decide +kernel) (by decide +kernel)
theorem wd_314 : Cond.instanceMethod ({ cls := "FatBalanceModel", name := "solids", desc := "(IJJ)Z" } : Jvm.MethodName) ∈ kT := kT_2 (i := 151) (by decide +kernel) (by decide +kernel)
theorem wd_315 : Cond.selects "FatBalanceModel" ({ cls := "FatBalanceModel", name := "solids", desc := "(IJJ)Z" } : Jvm.MethodName) ({ cls := "FatBalanceModel", name := "solids", desc := "(IJJ)Z" } : Jvm.MethodName) ∈ kT := kT_2 (i := 152) (by decide +kernel) (by decide +kernel)
theorem wd_316 : Cond.methodLink "FatBalanceLaw" (24 : Nat) ({ cls := "FatBalanceModel", name := "solids", desc := "(IJJ)Z" } : Jvm.MethodName) ∈ kT := kT_2 (i := 150) (by decide +kernel) (by decide +kernel)
theorem wd_317 : Cond.instanceMethod ({ cls := "FatBalance", name := "separate", desc := "(IJJ)I" } : Jvm.MethodName) ∈ kT := kT_1 (i := 140) (by decide +kernel) (by decide +kernel)
theorem wd_318 : Cond.selects "FatBalance" ({ cls := "FatBalance", name := "separate", desc := "(IJJ)I" } : Jvm.MethodName) ({ cls := "FatBalance", name := "separate", desc := "(IJJ)I" } : Jvm.MethodName) ∈ kT := kT_1 (i := 141) (by decide +kernel) (by decide +kernel)
theorem wd_319 : Cond.methodLink "FatBalanceLaw" (25 : Nat) ({ cls := "FatBalance", name := "separate", desc := "(IJJ)I" } : Jvm.MethodName) ∈ kT := kT_1 (i := 139) (by decide +kernel) (by decide +kernel)
theorem wd_320 : Cond.instanceMethod ({ cls := "FatBalanceModel", name := "separate", desc := "(IJJ)I" } : Jvm.MethodName) ∈ kT := kT_2 (i := 159) (by decide +kernel) (by decide +kernel)
theorem wd_321 : Cond.selects "FatBalanceModel" ({ cls := "FatBalanceModel", name := "separate", desc := "(IJJ)I" } : Jvm.MethodName) ({ cls := "FatBalanceModel", name := "separate", desc := "(IJJ)I" } : Jvm.MethodName) ∈ kT := kT_2 (i := 160) (by decide +kernel) (by decide +kernel)
theorem wd_322 : Cond.methodLink "FatBalanceLaw" (29 : Nat) ({ cls := "FatBalanceModel", name := "separate", desc := "(IJJ)I" } : Jvm.MethodName) ∈ kT := kT_2 (i := 158) (by decide +kernel) (by decide +kernel)
theorem wd_323 : Cond.instanceMethod ({ cls := "FatBalance", name := "choose", desc := "(I)Z" } : Jvm.MethodName) ∈ kT := kT_1 (i := 171) (by decide +kernel) (by decide +kernel)
theorem wd_324 : Cond.selects "FatBalance" ({ cls := "FatBalance", name := "choose", desc := "(I)Z" } : Jvm.MethodName) ({ cls := "FatBalance", name := "choose", desc := "(I)Z" } : Jvm.MethodName) ∈ kT := kT_1 (i := 172) (by decide +kernel) (by decide +kernel)
theorem wd_325 : Cond.methodLink "FatBalanceLaw" (30 : Nat) ({ cls := "FatBalance", name := "choose", desc := "(I)Z" } : Jvm.MethodName) ∈ kT := kT_1 (i := 170) (by decide +kernel) (by decide +kernel)
theorem wd_326 : Cond.instanceMethod ({ cls := "FatBalanceModel", name := "choose", desc := "(I)Z" } : Jvm.MethodName) ∈ kT := kT_2 (i := 167) (by decide +kernel) (by decide +kernel)
theorem wd_327 : Cond.selects "FatBalanceModel" ({ cls := "FatBalanceModel", name := "choose", desc := "(I)Z" } : Jvm.MethodName) ({ cls := "FatBalanceModel", name := "choose", desc := "(I)Z" } : Jvm.MethodName) ∈ kT := kT_2 (i := 168) (by decide +kernel) (by decide +kernel)
theorem wd_328 : Cond.methodLink "FatBalanceLaw" (34 : Nat) ({ cls := "FatBalanceModel", name := "choose", desc := "(I)Z" } : Jvm.MethodName) ∈ kT := kT_2 (i := 166) (by decide +kernel) (by decide +kernel)
theorem wd_329 : Cond.instanceMethod ({ cls := "FatBalance", name := "standard", desc := "(JJJ)I" } : Jvm.MethodName) ∈ kT := kT_1 (i := 175) (by decide +kernel) (by decide +kernel)
theorem wd_330 : Cond.selects "FatBalance" ({ cls := "FatBalance", name := "standard", desc := "(JJJ)I" } : Jvm.MethodName) ({ cls := "FatBalance", name := "standard", desc := "(JJJ)I" } : Jvm.MethodName) ∈ kT := kT_1 (i := 176) (by decide +kernel) (by decide +kernel)
theorem wd_331 : Cond.methodLink "FatBalanceLaw" (35 : Nat) ({ cls := "FatBalance", name := "standard", desc := "(JJJ)I" } : Jvm.MethodName) ∈ kT := kT_1 (i := 174) (by decide +kernel) (by decide +kernel)
theorem wd_332 : Cond.instanceMethod ({ cls := "FatBalanceModel", name := "standard", desc := "(JJJ)I" } : Jvm.MethodName) ∈ kT := kT_2 (i := 175) (by decide +kernel) (by decide +kernel)
theorem wd_333 : Cond.selects "FatBalanceModel" ({ cls := "FatBalanceModel", name := "standard", desc := "(JJJ)I" } : Jvm.MethodName) ({ cls := "FatBalanceModel", name := "standard", desc := "(JJJ)I" } : Jvm.MethodName) ∈ kT := kT_2 (i := 176) (by decide +kernel) (by decide +kernel)
theorem wd_334 : Cond.methodLink "FatBalanceLaw" (38 : Nat) ({ cls := "FatBalanceModel", name := "standard", desc := "(JJJ)I" } : Jvm.MethodName) ∈ kT := kT_2 (i := 174) (by decide +kernel) (by decide +kernel)
theorem wd_335 : Cond.instanceMethod ({ cls := "FatBalance", name := "share", desc := "(II)J" } : Jvm.MethodName) ∈ kT := kT_1 (i := 228) (by decide +kernel) (by decide +kernel)
theorem wd_336 : Cond.selects "FatBalance" ({ cls := "FatBalance", name := "share", desc := "(II)J" } : Jvm.MethodName) ({ cls := "FatBalance", name := "share", desc := "(II)J" } : Jvm.MethodName) ∈ kT := kT_1 (i := 229) (by decide +kernel) (by decide +kernel)
theorem wd_337 : Cond.methodLink "FatBalanceLaw" (39 : Nat) ({ cls := "FatBalance", name := "share", desc := "(II)J" } : Jvm.MethodName) ∈ kT := kT_1 (i := 227) (by decide +kernel) (by decide +kernel)
theorem wd_338 : Cond.instanceMethod ({ cls := "FatBalanceModel", name := "share", desc := "(II)J" } : Jvm.MethodName) ∈ kT := kT_2 (i := 198) (by decide +kernel) (by decide +kernel)
theorem wd_339 : Cond.selects "FatBalanceModel" ({ cls := "FatBalanceModel", name := "share", desc := "(II)J" } : Jvm.MethodName) ({ cls := "FatBalanceModel", name := "share", desc := "(II)J" } : Jvm.MethodName) ∈ kT := kT_2 (i := 199) (by decide +kernel) (by decide +kernel)
theorem wd_340 : Cond.methodLink "FatBalanceLaw" (43 : Nat) ({ cls := "FatBalanceModel", name := "share", desc := "(II)J" } : Jvm.MethodName) ∈ kT := kT_2 (i := 197) (by decide +kernel) (by decide +kernel)
theorem wd_341 : Cond.instanceMethod ({ cls := "FatBalance", name := "yieldOf", desc := "(III)J" } : Jvm.MethodName) ∈ kT := kT_2 (i := 13) (by decide +kernel) (by decide +kernel)
theorem wd_342 : Cond.selects "FatBalance" ({ cls := "FatBalance", name := "yieldOf", desc := "(III)J" } : Jvm.MethodName) ({ cls := "FatBalance", name := "yieldOf", desc := "(III)J" } : Jvm.MethodName) ∈ kT := kT_2 (i := 14) (by decide +kernel) (by decide +kernel)
theorem wd_343 : Cond.methodLink "FatBalanceLaw" (44 : Nat) ({ cls := "FatBalance", name := "yieldOf", desc := "(III)J" } : Jvm.MethodName) ∈ kT := kT_2 (i := 12) (by decide +kernel) (by decide +kernel)
theorem wd_344 : Cond.instanceMethod ({ cls := "FatBalanceModel", name := "yieldOf", desc := "(III)J" } : Jvm.MethodName) ∈ kT := kT_2 (i := 205) (by decide +kernel) (by decide +kernel)
theorem wd_345 : Cond.selects "FatBalanceModel" ({ cls := "FatBalanceModel", name := "yieldOf", desc := "(III)J" } : Jvm.MethodName) ({ cls := "FatBalanceModel", name := "yieldOf", desc := "(III)J" } : Jvm.MethodName) ∈ kT := kT_2 (i := 206) (by decide +kernel) (by decide +kernel)
theorem wd_346 : Cond.methodLink "FatBalanceLaw" (48 : Nat) ({ cls := "FatBalanceModel", name := "yieldOf", desc := "(III)J" } : Jvm.MethodName) ∈ kT := kT_2 (i := 204) (by decide +kernel) (by decide +kernel)
theorem wd_347 : Cond.instanceMethod ({ cls := "FatBalance", name := "loss", desc := "(I)J" } : Jvm.MethodName) ∈ kT := kT_2 (i := 35) (by decide +kernel) (by decide +kernel)
theorem wd_348 : Cond.selects "FatBalance" ({ cls := "FatBalance", name := "loss", desc := "(I)J" } : Jvm.MethodName) ({ cls := "FatBalance", name := "loss", desc := "(I)J" } : Jvm.MethodName) ∈ kT := kT_2 (i := 36) (by decide +kernel) (by decide +kernel)
theorem wd_349 : Cond.methodLink "FatBalanceLaw" (49 : Nat) ({ cls := "FatBalance", name := "loss", desc := "(I)J" } : Jvm.MethodName) ∈ kT := kT_2 (i := 34) (by decide +kernel) (by decide +kernel)
theorem wd_350 : Cond.instanceMethod ({ cls := "FatBalanceModel", name := "loss", desc := "(I)J" } : Jvm.MethodName) ∈ kT := kT_2 (i := 217) (by decide +kernel) (by decide +kernel)
theorem wd_351 : Cond.selects "FatBalanceModel" ({ cls := "FatBalanceModel", name := "loss", desc := "(I)J" } : Jvm.MethodName) ({ cls := "FatBalanceModel", name := "loss", desc := "(I)J" } : Jvm.MethodName) ∈ kT := kT_2 (i := 218) (by decide +kernel) (by decide +kernel)
theorem wd_352 : Cond.methodLink "FatBalanceLaw" (53 : Nat) ({ cls := "FatBalanceModel", name := "loss", desc := "(I)J" } : Jvm.MethodName) ∈ kT := kT_2 (i := 216) (by decide +kernel) (by decide +kernel)
theorem wd_353 : Cond.instanceMethod ({ cls := "FatBalance", name := "penalty", desc := "(JJ)Z" } : Jvm.MethodName) ∈ kT := kT_2 (i := 39) (by decide +kernel) (by decide +kernel)
theorem wd_354 : Cond.selects "FatBalance" ({ cls := "FatBalance", name := "penalty", desc := "(JJ)Z" } : Jvm.MethodName) ({ cls := "FatBalance", name := "penalty", desc := "(JJ)Z" } : Jvm.MethodName) ∈ kT := kT_2 (i := 40) (by decide +kernel) (by decide +kernel)
theorem wd_355 : Cond.methodLink "FatBalanceLaw" (54 : Nat) ({ cls := "FatBalance", name := "penalty", desc := "(JJ)Z" } : Jvm.MethodName) ∈ kT := kT_2 (i := 38) (by decide +kernel) (by decide +kernel)
theorem wd_356 : Cond.instanceMethod ({ cls := "FatBalanceModel", name := "penalty", desc := "(JJ)Z" } : Jvm.MethodName) ∈ kT := kT_2 (i := 221) (by decide +kernel) (by decide +kernel)
theorem wd_357 : Cond.selects "FatBalanceModel" ({ cls := "FatBalanceModel", name := "penalty", desc := "(JJ)Z" } : Jvm.MethodName) ({ cls := "FatBalanceModel", name := "penalty", desc := "(JJ)Z" } : Jvm.MethodName) ∈ kT := kT_2 (i := 222) (by decide +kernel) (by decide +kernel)
theorem wd_358 : Cond.methodLink "FatBalanceLaw" (58 : Nat) ({ cls := "FatBalanceModel", name := "penalty", desc := "(JJ)Z" } : Jvm.MethodName) ∈ kT := kT_2 (i := 220) (by decide +kernel) (by decide +kernel)
theorem wd_359 : Cond.instanceMethod ({ cls := "FatBalance", name := "pay", desc := "(I)J" } : Jvm.MethodName) ∈ kT := kT_2 (i := 43) (by decide +kernel) (by decide +kernel)
theorem wd_360 : Cond.selects "FatBalance" ({ cls := "FatBalance", name := "pay", desc := "(I)J" } : Jvm.MethodName) ({ cls := "FatBalance", name := "pay", desc := "(I)J" } : Jvm.MethodName) ∈ kT := kT_2 (i := 44) (by decide +kernel) (by decide +kernel)
theorem wd_361 : Cond.methodLink "FatBalanceLaw" (59 : Nat) ({ cls := "FatBalance", name := "pay", desc := "(I)J" } : Jvm.MethodName) ∈ kT := kT_2 (i := 42) (by decide +kernel) (by decide +kernel)
theorem wd_362 : Cond.instanceMethod ({ cls := "FatBalanceModel", name := "pay", desc := "(I)J" } : Jvm.MethodName) ∈ kT := kT_2 (i := 225) (by decide +kernel) (by decide +kernel)
theorem wd_363 : Cond.selects "FatBalanceModel" ({ cls := "FatBalanceModel", name := "pay", desc := "(I)J" } : Jvm.MethodName) ({ cls := "FatBalanceModel", name := "pay", desc := "(I)J" } : Jvm.MethodName) ∈ kT := kT_2 (i := 226) (by decide +kernel) (by decide +kernel)
theorem wd_364 : Cond.methodLink "FatBalanceLaw" (62 : Nat) ({ cls := "FatBalanceModel", name := "pay", desc := "(I)J" } : Jvm.MethodName) ∈ kT := kT_2 (i := 224) (by decide +kernel) (by decide +kernel)
theorem wd_365 : Cond.instanceMethod ({ cls := "FatBalance", name := "efficiency", desc := "(JJJ)Z" } : Jvm.MethodName) ∈ kT := kT_2 (i := 55) (by decide +kernel) (by decide +kernel)
theorem wd_366 : Cond.selects "FatBalance" ({ cls := "FatBalance", name := "efficiency", desc := "(JJJ)Z" } : Jvm.MethodName) ({ cls := "FatBalance", name := "efficiency", desc := "(JJJ)Z" } : Jvm.MethodName) ∈ kT := kT_2 (i := 56) (by decide +kernel) (by decide +kernel)
theorem wd_367 : Cond.methodLink "FatBalanceLaw" (63 : Nat) ({ cls := "FatBalance", name := "efficiency", desc := "(JJJ)Z" } : Jvm.MethodName) ∈ kT := kT_2 (i := 54) (by decide +kernel) (by decide +kernel)
theorem wd_368 : Cond.instanceMethod ({ cls := "FatBalanceModel", name := "efficiency", desc := "(JJJ)Z" } : Jvm.MethodName) ∈ kT := kT_2 (i := 234) (by decide +kernel) (by decide +kernel)
theorem wd_369 : Cond.selects "FatBalanceModel" ({ cls := "FatBalanceModel", name := "efficiency", desc := "(JJJ)Z" } : Jvm.MethodName) ({ cls := "FatBalanceModel", name := "efficiency", desc := "(JJJ)Z" } : Jvm.MethodName) ∈ kT := kT_2 (i := 235) (by decide +kernel) (by decide +kernel)
theorem wd_370 : Cond.methodLink "FatBalanceLaw" (67 : Nat) ({ cls := "FatBalanceModel", name := "efficiency", desc := "(JJJ)Z" } : Jvm.MethodName) ∈ kT := kT_2 (i := 233) (by decide +kernel) (by decide +kernel)
theorem wd_371 : Cond.instanceMethod ({ cls := "FatBalance", name := "clearChosen", desc := "()V" } : Jvm.MethodName) ∈ kT := kT_2 (i := 63) (by decide +kernel) (by decide +kernel)
theorem wd_372 : Cond.selects "FatBalance" ({ cls := "FatBalance", name := "clearChosen", desc := "()V" } : Jvm.MethodName) ({ cls := "FatBalance", name := "clearChosen", desc := "()V" } : Jvm.MethodName) ∈ kT := kT_2 (i := 64) (by decide +kernel) (by decide +kernel)
theorem wd_373 : Cond.methodLink "FatBalanceLaw" (68 : Nat) ({ cls := "FatBalance", name := "clearChosen", desc := "()V" } : Jvm.MethodName) ∈ kT := kT_2 (i := 62) (by decide +kernel) (by decide +kernel)
theorem wd_374 : Cond.instanceMethod ({ cls := "FatBalanceModel", name := "clearChosen", desc := "()V" } : Jvm.MethodName) ∈ kT := kT_2 (i := 171) (by decide +kernel) (by decide +kernel)
theorem wd_375 : Cond.selects "FatBalanceModel" ({ cls := "FatBalanceModel", name := "clearChosen", desc := "()V" } : Jvm.MethodName) ({ cls := "FatBalanceModel", name := "clearChosen", desc := "()V" } : Jvm.MethodName) ∈ kT := kT_2 (i := 172) (by decide +kernel) (by decide +kernel)
theorem wd_376 : Cond.methodLink "FatBalanceLaw" (71 : Nat) ({ cls := "FatBalanceModel", name := "clearChosen", desc := "()V" } : Jvm.MethodName) ∈ kT := kT_2 (i := 170) (by decide +kernel) (by decide +kernel)
end
section
theorem d_X_init_0 : decode b_X_init 0 = .ok (.aload_n 0, 1) := by decide +kernel
theorem d_X_init_1 : decode b_X_init 1 = .ok (.invokespecial 1, 3) := by decide +kernel
theorem d_X_init_4 : decode b_X_init 4 = .ok (.aload_n 0, 1) := by decide +kernel
theorem d_X_init_5 : decode b_X_init 5 = .ok (.bipush 60, 2) := by decide +kernel
theorem d_X_init_7 : decode b_X_init 7 = .ok (.newarray .long, 2) := by decide +kernel
theorem d_X_init_9 : decode b_X_init 9 = .ok (.putfield 9, 3) := by decide +kernel
theorem d_X_init_12 : decode b_X_init 12 = .ok (.aload_n 0, 1) := by decide +kernel
theorem d_X_init_13 : decode b_X_init 13 = .ok (.bipush 60, 2) := by decide +kernel
theorem d_X_init_15 : decode b_X_init 15 = .ok (.newarray .long, 2) := by decide +kernel
theorem d_X_init_17 : decode b_X_init 17 = .ok (.putfield 13, 3) := by decide +kernel
theorem d_X_init_20 : decode b_X_init 20 = .ok (.aload_n 0, 1) := by decide +kernel
theorem d_X_init_21 : decode b_X_init 21 = .ok (.bipush 60, 2) := by decide +kernel
theorem d_X_init_23 : decode b_X_init 23 = .ok (.newarray .long, 2) := by decide +kernel
theorem d_X_init_25 : decode b_X_init 25 = .ok (.putfield 16, 3) := by decide +kernel
theorem d_X_init_28 : decode b_X_init 28 = .ok (.aload_n 0, 1) := by decide +kernel
theorem d_X_init_29 : decode b_X_init 29 = .ok (.bipush 60, 2) := by decide +kernel
theorem d_X_init_31 : decode b_X_init 31 = .ok (.newarray .boolean, 2) := by decide +kernel
theorem d_X_init_33 : decode b_X_init 33 = .ok (.putfield 19, 3) := by decide +kernel
theorem d_X_init_36 : decode b_X_init 36 = .ok (.aload_n 0, 1) := by decide +kernel
theorem d_X_init_37 : decode b_X_init 37 = .ok (.iconst 0, 1) := by decide +kernel
theorem d_X_init_38 : decode b_X_init 38 = .ok (.putfield 23, 3) := by decide +kernel
theorem d_X_init_41 : decode b_X_init 41 = .ok (.aload_n 0, 1) := by decide +kernel
theorem d_X_init_42 : decode b_X_init 42 = .ok (.bipush 60, 2) := by decide +kernel
theorem d_X_init_44 : decode b_X_init 44 = .ok (.newarray .long, 2) := by decide +kernel
theorem d_X_init_46 : decode b_X_init 46 = .ok (.putfield 27, 3) := by decide +kernel
theorem d_X_init_49 : decode b_X_init 49 = .ok (.aload_n 0, 1) := by decide +kernel
theorem d_X_init_50 : decode b_X_init 50 = .ok (.iconst 0, 1) := by decide +kernel
theorem d_X_init_51 : decode b_X_init 51 = .ok (.putfield 30, 3) := by decide +kernel
theorem d_X_init_54 : decode b_X_init 54 = .ok (.aload_n 0, 1) := by decide +kernel
theorem d_X_init_55 : decode b_X_init 55 = .ok (.bipush 10, 2) := by decide +kernel
theorem d_X_init_57 : decode b_X_init 57 = .ok (.newarray .long, 2) := by decide +kernel
theorem d_X_init_59 : decode b_X_init 59 = .ok (.putfield 33, 3) := by decide +kernel
theorem d_X_init_62 : decode b_X_init 62 = .ok (.aload_n 0, 1) := by decide +kernel
theorem d_X_init_63 : decode b_X_init 63 = .ok (.bipush 10, 2) := by decide +kernel
theorem d_X_init_65 : decode b_X_init 65 = .ok (.newarray .long, 2) := by decide +kernel
theorem d_X_init_67 : decode b_X_init 67 = .ok (.putfield 36, 3) := by decide +kernel
theorem d_X_init_70 : decode b_X_init 70 = .ok (.aload_n 0, 1) := by decide +kernel
theorem d_X_init_71 : decode b_X_init 71 = .ok (.iconst 0, 1) := by decide +kernel
theorem d_X_init_72 : decode b_X_init 72 = .ok (.putfield 39, 3) := by decide +kernel
theorem d_X_init_75 : decode b_X_init 75 = .ok (.aload_n 0, 1) := by decide +kernel
theorem d_X_init_76 : decode b_X_init 76 = .ok (.iconst 4, 1) := by decide +kernel
theorem d_X_init_77 : decode b_X_init 77 = .ok (.newarray .int, 2) := by decide +kernel
theorem d_X_init_79 : decode b_X_init 79 = .ok (.putfield 42, 3) := by decide +kernel
theorem d_X_init_82 : decode b_X_init 82 = .ok (.aload_n 0, 1) := by decide +kernel
theorem d_X_init_83 : decode b_X_init 83 = .ok (.iconst 0, 1) := by decide +kernel
theorem d_X_init_84 : decode b_X_init 84 = .ok (.putfield 46, 3) := by decide +kernel
theorem d_X_init_87 : decode b_X_init 87 = .ok (.aload_n 0, 1) := by decide +kernel
theorem d_X_init_88 : decode b_X_init 88 = .ok (.new 49, 3) := by decide +kernel
theorem d_X_init_91 : decode b_X_init 91 = .ok (.dup, 1) := by decide +kernel
theorem d_X_init_92 : decode b_X_init 92 = .ok (.invokespecial 51, 3) := by decide +kernel
theorem d_X_init_95 : decode b_X_init 95 = .ok (.putfield 52, 3) := by decide +kernel
theorem d_X_init_98 : decode b_X_init 98 = .ok (.aload_n 0, 1) := by decide +kernel
theorem d_X_init_99 : decode b_X_init 99 = .ok (.new 56, 3) := by decide +kernel
theorem d_X_init_102 : decode b_X_init 102 = .ok (.dup, 1) := by decide +kernel
theorem d_X_init_103 : decode b_X_init 103 = .ok (.invokespecial 58, 3) := by decide +kernel
theorem d_X_init_106 : decode b_X_init 106 = .ok (.putfield 59, 3) := by decide +kernel
theorem d_X_init_109 : decode b_X_init 109 = .ok (.return_, 1) := by decide +kernel
theorem d_X_lot_0 : decode b_X_lot 0 = .ok (.lload_n 3, 1) := by decide +kernel
theorem d_X_lot_1 : decode b_X_lot 1 = .ok (.lload 5, 2) := by decide +kernel
theorem d_X_lot_3 : decode b_X_lot 3 = .ok (.invokestatic 63, 3) := by decide +kernel
theorem d_X_lot_6 : decode b_X_lot 6 = .ok (.lstore 7, 2) := by decide +kernel
theorem d_X_lot_8 : decode b_X_lot 8 = .ok (.lload_n 1, 1) := by decide +kernel
theorem d_X_lot_9 : decode b_X_lot 9 = .ok (.lconst 1, 1) := by decide +kernel
theorem d_X_lot_10 : decode b_X_lot 10 = .ok (.ldc2_w 67, 3) := by decide +kernel
theorem d_X_lot_13 : decode b_X_lot 13 = .ok (.invokestatic 69, 3) := by decide +kernel
theorem d_X_lot_16 : decode b_X_lot 16 = .ok (.ifCond .eq 12, 3) := by decide +kernel
theorem d_X_lot_19 : decode b_X_lot 19 = .ok (.lload 7, 2) := by decide +kernel
theorem d_X_lot_21 : decode b_X_lot 21 = .ok (.ldc2_w 73, 3) := by decide +kernel
theorem d_X_lot_24 : decode b_X_lot 24 = .ok (.lcmp, 1) := by decide +kernel
theorem d_X_lot_25 : decode b_X_lot 25 = .ok (.ifCond .ne 5, 3) := by decide +kernel
theorem d_X_lot_28 : decode b_X_lot 28 = .ok (.iconst (-1), 1) := by decide +kernel
theorem d_X_lot_29 : decode b_X_lot 29 = .ok (.ireturn, 1) := by decide +kernel
theorem d_X_lot_30 : decode b_X_lot 30 = .ok (.aload_n 0, 1) := by decide +kernel
theorem d_X_lot_31 : decode b_X_lot 31 = .ok (.getfield 23, 3) := by decide +kernel
theorem d_X_lot_34 : decode b_X_lot 34 = .ok (.bipush 60, 2) := by decide +kernel
theorem d_X_lot_36 : decode b_X_lot 36 = .ok (.if_icmp .lt 6, 3) := by decide +kernel
theorem d_X_lot_39 : decode b_X_lot 39 = .ok (.bipush (-2), 2) := by decide +kernel
theorem d_X_lot_41 : decode b_X_lot 41 = .ok (.ireturn, 1) := by decide +kernel
theorem d_X_lot_42 : decode b_X_lot 42 = .ok (.aload_n 0, 1) := by decide +kernel
theorem d_X_lot_43 : decode b_X_lot 43 = .ok (.lload_n 1, 1) := by decide +kernel
theorem d_X_lot_44 : decode b_X_lot 44 = .ok (.lload 7, 2) := by decide +kernel
theorem d_X_lot_46 : decode b_X_lot 46 = .ok (.lconst 0, 1) := by decide +kernel
theorem d_X_lot_47 : decode b_X_lot 47 = .ok (.invokevirtual 75, 3) := by decide +kernel
theorem d_X_lot_50 : decode b_X_lot 50 = .ok (.ireturn, 1) := by decide +kernel
theorem d_X_wholeParts_0 : decode b_X_wholeParts 0 = .ok (.lload_n 2, 1) := by decide +kernel
theorem d_X_wholeParts_1 : decode b_X_wholeParts 1 = .ok (.lconst 1, 1) := by decide +kernel
theorem d_X_wholeParts_2 : decode b_X_wholeParts 2 = .ok (.ldc2_w 83, 3) := by decide +kernel
theorem d_X_wholeParts_5 : decode b_X_wholeParts 5 = .ok (.invokestatic 69, 3) := by decide +kernel
theorem d_X_wholeParts_8 : decode b_X_wholeParts 8 = .ok (.ifCond .eq 12, 3) := by decide +kernel
theorem d_X_wholeParts_11 : decode b_X_wholeParts 11 = .ok (.lload_n 0, 1) := by decide +kernel
theorem d_X_wholeParts_12 : decode b_X_wholeParts 12 = .ok (.lconst 0, 1) := by decide +kernel
theorem d_X_wholeParts_13 : decode b_X_wholeParts 13 = .ok (.lload_n 2, 1) := by decide +kernel
theorem d_X_wholeParts_14 : decode b_X_wholeParts 14 = .ok (.invokestatic 69, 3) := by decide +kernel
theorem d_X_wholeParts_17 : decode b_X_wholeParts 17 = .ok (.ifCond .ne 7, 3) := by decide +kernel
theorem d_X_wholeParts_20 : decode b_X_wholeParts 20 = .ok (.ldc2_w 73, 3) := by decide +kernel
theorem d_X_wholeParts_23 : decode b_X_wholeParts 23 = .ok (.lreturn, 1) := by decide +kernel
theorem d_X_wholeParts_24 : decode b_X_wholeParts 24 = .ok (.lload_n 0, 1) := by decide +kernel
theorem d_X_wholeParts_25 : decode b_X_wholeParts 25 = .ok (.ldc2_w 83, 3) := by decide +kernel
theorem d_X_wholeParts_28 : decode b_X_wholeParts 28 = .ok (.lmul, 1) := by decide +kernel
theorem d_X_wholeParts_29 : decode b_X_wholeParts 29 = .ok (.lstore 4, 2) := by decide +kernel
theorem d_X_wholeParts_31 : decode b_X_wholeParts 31 = .ok (.lload 4, 2) := by decide +kernel
theorem d_X_wholeParts_33 : decode b_X_wholeParts 33 = .ok (.lload_n 2, 1) := by decide +kernel
theorem d_X_wholeParts_34 : decode b_X_wholeParts 34 = .ok (.lrem, 1) := by decide +kernel
theorem d_X_wholeParts_35 : decode b_X_wholeParts 35 = .ok (.lconst 0, 1) := by decide +kernel
theorem d_X_wholeParts_36 : decode b_X_wholeParts 36 = .ok (.lcmp, 1) := by decide +kernel
theorem d_X_wholeParts_37 : decode b_X_wholeParts 37 = .ok (.ifCond .ne 10, 3) := by decide +kernel
theorem d_X_wholeParts_40 : decode b_X_wholeParts 40 = .ok (.lload 4, 2) := by decide +kernel
theorem d_X_wholeParts_42 : decode b_X_wholeParts 42 = .ok (.lload_n 2, 1) := by decide +kernel
theorem d_X_wholeParts_43 : decode b_X_wholeParts 43 = .ok (.ldiv, 1) := by decide +kernel
theorem d_X_wholeParts_44 : decode b_X_wholeParts 44 = .ok (.goto 6, 3) := by decide +kernel
theorem d_X_wholeParts_47 : decode b_X_wholeParts 47 = .ok (.ldc2_w 73, 3) := by decide +kernel
theorem d_X_wholeParts_50 : decode b_X_wholeParts 50 = .ok (.lreturn, 1) := by decide +kernel
theorem d_X_isWithin_0 : decode b_X_isWithin 0 = .ok (.lload_n 0, 1) := by decide +kernel
theorem d_X_isWithin_1 : decode b_X_isWithin 1 = .ok (.lload_n 2, 1) := by decide +kernel
theorem d_X_isWithin_2 : decode b_X_isWithin 2 = .ok (.lcmp, 1) := by decide +kernel
theorem d_X_isWithin_3 : decode b_X_isWithin 3 = .ok (.ifCond .lt 14, 3) := by decide +kernel
theorem d_X_isWithin_6 : decode b_X_isWithin 6 = .ok (.lload_n 0, 1) := by decide +kernel
theorem d_X_isWithin_7 : decode b_X_isWithin 7 = .ok (.lload 4, 2) := by decide +kernel
theorem d_X_isWithin_9 : decode b_X_isWithin 9 = .ok (.lcmp, 1) := by decide +kernel
theorem d_X_isWithin_10 : decode b_X_isWithin 10 = .ok (.ifCond .gt 7, 3) := by decide +kernel
theorem d_X_isWithin_13 : decode b_X_isWithin 13 = .ok (.iconst 1, 1) := by decide +kernel
theorem d_X_isWithin_14 : decode b_X_isWithin 14 = .ok (.goto 4, 3) := by decide +kernel
theorem d_X_isWithin_17 : decode b_X_isWithin 17 = .ok (.iconst 0, 1) := by decide +kernel
theorem d_X_isWithin_18 : decode b_X_isWithin 18 = .ok (.ireturn, 1) := by decide +kernel
theorem d_X_addLot_0 : decode b_X_addLot 0 = .ok (.aload_n 0, 1) := by decide +kernel
theorem d_X_addLot_1 : decode b_X_addLot 1 = .ok (.getfield 23, 3) := by decide +kernel
theorem d_X_addLot_4 : decode b_X_addLot 4 = .ok (.istore 7, 2) := by decide +kernel
theorem d_X_addLot_6 : decode b_X_addLot 6 = .ok (.aload_n 0, 1) := by decide +kernel
theorem d_X_addLot_7 : decode b_X_addLot 7 = .ok (.getfield 9, 3) := by decide +kernel
theorem d_X_addLot_10 : decode b_X_addLot 10 = .ok (.iload 7, 2) := by decide +kernel
theorem d_X_addLot_12 : decode b_X_addLot 12 = .ok (.lload_n 1, 1) := by decide +kernel
theorem d_X_addLot_13 : decode b_X_addLot 13 = .ok (.lastore, 1) := by decide +kernel
theorem d_X_addLot_14 : decode b_X_addLot 14 = .ok (.aload_n 0, 1) := by decide +kernel
theorem d_X_addLot_15 : decode b_X_addLot 15 = .ok (.getfield 13, 3) := by decide +kernel
theorem d_X_addLot_18 : decode b_X_addLot 18 = .ok (.iload 7, 2) := by decide +kernel
theorem d_X_addLot_20 : decode b_X_addLot 20 = .ok (.lload_n 3, 1) := by decide +kernel
theorem d_X_addLot_21 : decode b_X_addLot 21 = .ok (.lastore, 1) := by decide +kernel
theorem d_X_addLot_22 : decode b_X_addLot 22 = .ok (.aload_n 0, 1) := by decide +kernel
theorem d_X_addLot_23 : decode b_X_addLot 23 = .ok (.getfield 16, 3) := by decide +kernel
theorem d_X_addLot_26 : decode b_X_addLot 26 = .ok (.iload 7, 2) := by decide +kernel
theorem d_X_addLot_28 : decode b_X_addLot 28 = .ok (.lload 5, 2) := by decide +kernel
theorem d_X_addLot_30 : decode b_X_addLot 30 = .ok (.lastore, 1) := by decide +kernel
theorem d_X_addLot_31 : decode b_X_addLot 31 = .ok (.aload_n 0, 1) := by decide +kernel
theorem d_X_addLot_32 : decode b_X_addLot 32 = .ok (.dup, 1) := by decide +kernel
theorem d_X_addLot_33 : decode b_X_addLot 33 = .ok (.getfield 23, 3) := by decide +kernel
theorem d_X_addLot_36 : decode b_X_addLot 36 = .ok (.iconst 1, 1) := by decide +kernel
theorem d_X_addLot_37 : decode b_X_addLot 37 = .ok (.iadd, 1) := by decide +kernel
theorem d_X_addLot_38 : decode b_X_addLot 38 = .ok (.putfield 23, 3) := by decide +kernel
theorem d_X_addLot_41 : decode b_X_addLot 41 = .ok (.iload 7, 2) := by decide +kernel
theorem d_X_addLot_43 : decode b_X_addLot 43 = .ok (.ireturn, 1) := by decide +kernel
theorem d_X_solids_0 : decode b_X_solids 0 = .ok (.lload_n 2, 1) := by decide +kernel
theorem d_X_solids_1 : decode b_X_solids 1 = .ok (.lload 4, 2) := by decide +kernel
theorem d_X_solids_3 : decode b_X_solids 3 = .ok (.invokestatic 63, 3) := by decide +kernel
theorem d_X_solids_6 : decode b_X_solids 6 = .ok (.lstore 6, 2) := by decide +kernel
theorem d_X_solids_8 : decode b_X_solids 8 = .ok (.aload_n 0, 1) := by decide +kernel
theorem d_X_solids_9 : decode b_X_solids 9 = .ok (.iload_n 1, 1) := by decide +kernel
theorem d_X_solids_10 : decode b_X_solids 10 = .ok (.invokevirtual 79, 3) := by decide +kernel
theorem d_X_solids_13 : decode b_X_solids 13 = .ok (.ifCond .eq 28, 3) := by decide +kernel
theorem d_X_solids_16 : decode b_X_solids 16 = .ok (.lload 6, 2) := by decide +kernel
theorem d_X_solids_18 : decode b_X_solids 18 = .ok (.ldc2_w 73, 3) := by decide +kernel
theorem d_X_solids_21 : decode b_X_solids 21 = .ok (.lcmp, 1) := by decide +kernel
theorem d_X_solids_22 : decode b_X_solids 22 = .ok (.ifCond .eq 19, 3) := by decide +kernel
theorem d_X_solids_25 : decode b_X_solids 25 = .ok (.aload_n 0, 1) := by decide +kernel
theorem d_X_solids_26 : decode b_X_solids 26 = .ok (.getfield 13, 3) := by decide +kernel
theorem d_X_solids_29 : decode b_X_solids 29 = .ok (.iload_n 1, 1) := by decide +kernel
theorem d_X_solids_30 : decode b_X_solids 30 = .ok (.laload, 1) := by decide +kernel
theorem d_X_solids_31 : decode b_X_solids 31 = .ok (.lload 6, 2) := by decide +kernel
theorem d_X_solids_33 : decode b_X_solids 33 = .ok (.ladd, 1) := by decide +kernel
theorem d_X_solids_34 : decode b_X_solids 34 = .ok (.ldc2_w 83, 3) := by decide +kernel
theorem d_X_solids_37 : decode b_X_solids 37 = .ok (.lcmp, 1) := by decide +kernel
theorem d_X_solids_38 : decode b_X_solids 38 = .ok (.ifCond .le 5, 3) := by decide +kernel
theorem d_X_solids_41 : decode b_X_solids 41 = .ok (.iconst 0, 1) := by decide +kernel
theorem d_X_solids_42 : decode b_X_solids 42 = .ok (.ireturn, 1) := by decide +kernel
theorem d_X_solids_43 : decode b_X_solids 43 = .ok (.aload_n 0, 1) := by decide +kernel
theorem d_X_solids_44 : decode b_X_solids 44 = .ok (.getfield 16, 3) := by decide +kernel
theorem d_X_solids_47 : decode b_X_solids 47 = .ok (.iload_n 1, 1) := by decide +kernel
theorem d_X_solids_48 : decode b_X_solids 48 = .ok (.lload 6, 2) := by decide +kernel
theorem d_X_solids_50 : decode b_X_solids 50 = .ok (.lastore, 1) := by decide +kernel
theorem d_X_solids_51 : decode b_X_solids 51 = .ok (.iconst 1, 1) := by decide +kernel
theorem d_X_solids_52 : decode b_X_solids 52 = .ok (.ireturn, 1) := by decide +kernel
theorem d_X_isUnseparated_0 : decode b_X_isUnseparated 0 = .ok (.aload_n 0, 1) := by decide +kernel
theorem d_X_isUnseparated_1 : decode b_X_isUnseparated 1 = .ok (.iload_n 1, 1) := by decide +kernel
theorem d_X_isUnseparated_2 : decode b_X_isUnseparated 2 = .ok (.invokevirtual 112, 3) := by decide +kernel
theorem d_X_isUnseparated_5 : decode b_X_isUnseparated 5 = .ok (.ifCond .eq 16, 3) := by decide +kernel
theorem d_X_isUnseparated_8 : decode b_X_isUnseparated 8 = .ok (.aload_n 0, 1) := by decide +kernel
theorem d_X_isUnseparated_9 : decode b_X_isUnseparated 9 = .ok (.getfield 19, 3) := by decide +kernel
theorem d_X_isUnseparated_12 : decode b_X_isUnseparated 12 = .ok (.iload_n 1, 1) := by decide +kernel
theorem d_X_isUnseparated_13 : decode b_X_isUnseparated 13 = .ok (.baload, 1) := by decide +kernel
theorem d_X_isUnseparated_14 : decode b_X_isUnseparated 14 = .ok (.ifCond .ne 7, 3) := by decide +kernel
theorem d_X_isUnseparated_17 : decode b_X_isUnseparated 17 = .ok (.iconst 1, 1) := by decide +kernel
theorem d_X_isUnseparated_18 : decode b_X_isUnseparated 18 = .ok (.goto 4, 3) := by decide +kernel
theorem d_X_isUnseparated_21 : decode b_X_isUnseparated 21 = .ok (.iconst 0, 1) := by decide +kernel
theorem d_X_isUnseparated_22 : decode b_X_isUnseparated 22 = .ok (.ireturn, 1) := by decide +kernel
theorem d_X_isLot_0 : decode b_X_isLot 0 = .ok (.iload_n 1, 1) := by decide +kernel
theorem d_X_isLot_1 : decode b_X_isLot 1 = .ok (.ifCond .lt 15, 3) := by decide +kernel
theorem d_X_isLot_4 : decode b_X_isLot 4 = .ok (.iload_n 1, 1) := by decide +kernel
theorem d_X_isLot_5 : decode b_X_isLot 5 = .ok (.aload_n 0, 1) := by decide +kernel
theorem d_X_isLot_6 : decode b_X_isLot 6 = .ok (.getfield 23, 3) := by decide +kernel
theorem d_X_isLot_9 : decode b_X_isLot 9 = .ok (.if_icmp .ge 7, 3) := by decide +kernel
theorem d_X_isLot_12 : decode b_X_isLot 12 = .ok (.iconst 1, 1) := by decide +kernel
theorem d_X_isLot_13 : decode b_X_isLot 13 = .ok (.goto 4, 3) := by decide +kernel
theorem d_X_isLot_16 : decode b_X_isLot 16 = .ok (.iconst 0, 1) := by decide +kernel
theorem d_X_isLot_17 : decode b_X_isLot 17 = .ok (.ireturn, 1) := by decide +kernel
theorem d_X_separate_0 : decode b_X_separate 0 = .ok (.lload_n 2, 1) := by decide +kernel
theorem d_X_separate_1 : decode b_X_separate 1 = .ok (.lload 4, 2) := by decide +kernel
theorem d_X_separate_3 : decode b_X_separate 3 = .ok (.invokestatic 63, 3) := by decide +kernel
theorem d_X_separate_6 : decode b_X_separate 6 = .ok (.lstore 6, 2) := by decide +kernel
theorem d_X_separate_8 : decode b_X_separate 8 = .ok (.aload_n 0, 1) := by decide +kernel
theorem d_X_separate_9 : decode b_X_separate 9 = .ok (.iload_n 1, 1) := by decide +kernel
theorem d_X_separate_10 : decode b_X_separate 10 = .ok (.invokevirtual 79, 3) := by decide +kernel
theorem d_X_separate_13 : decode b_X_separate 13 = .ok (.ifCond .eq 23, 3) := by decide +kernel
theorem d_X_separate_16 : decode b_X_separate 16 = .ok (.aload_n 0, 1) := by decide +kernel
theorem d_X_separate_17 : decode b_X_separate 17 = .ok (.getfield 9, 3) := by decide +kernel
theorem d_X_separate_20 : decode b_X_separate 20 = .ok (.iload_n 1, 1) := by decide +kernel
theorem d_X_separate_21 : decode b_X_separate 21 = .ok (.laload, 1) := by decide +kernel
theorem d_X_separate_22 : decode b_X_separate 22 = .ok (.lconst 0, 1) := by decide +kernel
theorem d_X_separate_23 : decode b_X_separate 23 = .ok (.lcmp, 1) := by decide +kernel
theorem d_X_separate_24 : decode b_X_separate 24 = .ok (.ifCond .eq 12, 3) := by decide +kernel
theorem d_X_separate_27 : decode b_X_separate 27 = .ok (.lload 6, 2) := by decide +kernel
theorem d_X_separate_29 : decode b_X_separate 29 = .ok (.ldc2_w 73, 3) := by decide +kernel
theorem d_X_separate_32 : decode b_X_separate 32 = .ok (.lcmp, 1) := by decide +kernel
theorem d_X_separate_33 : decode b_X_separate 33 = .ok (.ifCond .ne 5, 3) := by decide +kernel
theorem d_X_separate_36 : decode b_X_separate 36 = .ok (.iconst (-1), 1) := by decide +kernel
theorem d_X_separate_37 : decode b_X_separate 37 = .ok (.ireturn, 1) := by decide +kernel
theorem d_X_separate_38 : decode b_X_separate 38 = .ok (.aload_n 0, 1) := by decide +kernel
theorem d_X_separate_39 : decode b_X_separate 39 = .ok (.getfield 52, 3) := by decide +kernel
theorem d_X_separate_42 : decode b_X_separate 42 = .ok (.aload_n 0, 1) := by decide +kernel
theorem d_X_separate_43 : decode b_X_separate 43 = .ok (.getfield 9, 3) := by decide +kernel
theorem d_X_separate_46 : decode b_X_separate 46 = .ok (.iload_n 1, 1) := by decide +kernel
theorem d_X_separate_47 : decode b_X_separate 47 = .ok (.laload, 1) := by decide +kernel
theorem d_X_separate_48 : decode b_X_separate 48 = .ok (.invokevirtual 85, 3) := by decide +kernel
theorem d_X_separate_51 : decode b_X_separate 51 = .ok (.lstore 8, 2) := by decide +kernel
theorem d_X_separate_53 : decode b_X_separate 53 = .ok (.lload 8, 2) := by decide +kernel
theorem d_X_separate_55 : decode b_X_separate 55 = .ok (.aload_n 0, 1) := by decide +kernel
theorem d_X_separate_56 : decode b_X_separate 56 = .ok (.getfield 13, 3) := by decide +kernel
theorem d_X_separate_59 : decode b_X_separate 59 = .ok (.iload_n 1, 1) := by decide +kernel
theorem d_X_separate_60 : decode b_X_separate 60 = .ok (.laload, 1) := by decide +kernel
theorem d_X_separate_61 : decode b_X_separate 61 = .ok (.lcmp, 1) := by decide +kernel
theorem d_X_separate_62 : decode b_X_separate 62 = .ok (.ifCond .ge 15, 3) := by decide +kernel
theorem d_X_separate_65 : decode b_X_separate 65 = .ok (.aload_n 0, 1) := by decide +kernel
theorem d_X_separate_66 : decode b_X_separate 66 = .ok (.getfield 13, 3) := by decide +kernel
theorem d_X_separate_69 : decode b_X_separate 69 = .ok (.iload_n 1, 1) := by decide +kernel
theorem d_X_separate_70 : decode b_X_separate 70 = .ok (.laload, 1) := by decide +kernel
theorem d_X_separate_71 : decode b_X_separate 71 = .ok (.lload 6, 2) := by decide +kernel
theorem d_X_separate_73 : decode b_X_separate 73 = .ok (.lcmp, 1) := by decide +kernel
theorem d_X_separate_74 : decode b_X_separate 74 = .ok (.ifCond .lt 5, 3) := by decide +kernel
theorem d_X_separate_77 : decode b_X_separate 77 = .ok (.iconst (-1), 1) := by decide +kernel
theorem d_X_separate_78 : decode b_X_separate 78 = .ok (.ireturn, 1) := by decide +kernel
theorem d_X_separate_79 : decode b_X_separate 79 = .ok (.aload_n 0, 1) := by decide +kernel
theorem d_X_separate_80 : decode b_X_separate 80 = .ok (.getfield 23, 3) := by decide +kernel
theorem d_X_separate_83 : decode b_X_separate 83 = .ok (.iconst 2, 1) := by decide +kernel
theorem d_X_separate_84 : decode b_X_separate 84 = .ok (.iadd, 1) := by decide +kernel
theorem d_X_separate_85 : decode b_X_separate 85 = .ok (.bipush 60, 2) := by decide +kernel
theorem d_X_separate_87 : decode b_X_separate 87 = .ok (.if_icmp .gt 12, 3) := by decide +kernel
theorem d_X_separate_90 : decode b_X_separate 90 = .ok (.aload_n 0, 1) := by decide +kernel
theorem d_X_separate_91 : decode b_X_separate 91 = .ok (.getfield 30, 3) := by decide +kernel
theorem d_X_separate_94 : decode b_X_separate 94 = .ok (.bipush 60, 2) := by decide +kernel
theorem d_X_separate_96 : decode b_X_separate 96 = .ok (.if_icmp .lt 6, 3) := by decide +kernel
theorem d_X_separate_99 : decode b_X_separate 99 = .ok (.bipush (-2), 2) := by decide +kernel
theorem d_X_separate_101 : decode b_X_separate 101 = .ok (.ireturn, 1) := by decide +kernel
theorem d_X_separate_102 : decode b_X_separate 102 = .ok (.aload_n 0, 1) := by decide +kernel
theorem d_X_separate_103 : decode b_X_separate 103 = .ok (.iload_n 1, 1) := by decide +kernel
theorem d_X_separate_104 : decode b_X_separate 104 = .ok (.lload 6, 2) := by decide +kernel
theorem d_X_separate_106 : decode b_X_separate 106 = .ok (.lload 8, 2) := by decide +kernel
theorem d_X_separate_108 : decode b_X_separate 108 = .ok (.invokevirtual 89, 3) := by decide +kernel
theorem d_X_separate_111 : decode b_X_separate 111 = .ok (.ireturn, 1) := by decide +kernel
theorem d_X_split_0 : decode b_X_split 0 = .ok (.aload_n 0, 1) := by decide +kernel
theorem d_X_split_1 : decode b_X_split 1 = .ok (.getfield 9, 3) := by decide +kernel
theorem d_X_split_4 : decode b_X_split 4 = .ok (.iload_n 1, 1) := by decide +kernel
theorem d_X_split_5 : decode b_X_split 5 = .ok (.laload, 1) := by decide +kernel
theorem d_X_split_6 : decode b_X_split 6 = .ok (.lstore 6, 2) := by decide +kernel
theorem d_X_split_8 : decode b_X_split 8 = .ok (.aload_n 0, 1) := by decide +kernel
theorem d_X_split_9 : decode b_X_split 9 = .ok (.getfield 13, 3) := by decide +kernel
theorem d_X_split_12 : decode b_X_split 12 = .ok (.iload_n 1, 1) := by decide +kernel
theorem d_X_split_13 : decode b_X_split 13 = .ok (.laload, 1) := by decide +kernel
theorem d_X_split_14 : decode b_X_split 14 = .ok (.lstore 8, 2) := by decide +kernel
theorem d_X_split_16 : decode b_X_split 16 = .ok (.lload 6, 2) := by decide +kernel
theorem d_X_split_18 : decode b_X_split 18 = .ok (.lload 8, 2) := by decide +kernel
theorem d_X_split_20 : decode b_X_split 20 = .ok (.lload 4, 2) := by decide +kernel
theorem d_X_split_22 : decode b_X_split 22 = .ok (.lsub, 1) := by decide +kernel
theorem d_X_split_23 : decode b_X_split 23 = .ok (.lmul, 1) := by decide +kernel
theorem d_X_split_24 : decode b_X_split 24 = .ok (.lload_n 2, 1) := by decide +kernel
theorem d_X_split_25 : decode b_X_split 25 = .ok (.lload 4, 2) := by decide +kernel
theorem d_X_split_27 : decode b_X_split 27 = .ok (.lsub, 1) := by decide +kernel
theorem d_X_split_28 : decode b_X_split 28 = .ok (.ldiv, 1) := by decide +kernel
theorem d_X_split_29 : decode b_X_split 29 = .ok (.lstore 10, 2) := by decide +kernel
theorem d_X_split_31 : decode b_X_split 31 = .ok (.lload 6, 2) := by decide +kernel
theorem d_X_split_33 : decode b_X_split 33 = .ok (.lload_n 2, 1) := by decide +kernel
theorem d_X_split_34 : decode b_X_split 34 = .ok (.lload 8, 2) := by decide +kernel
theorem d_X_split_36 : decode b_X_split 36 = .ok (.lsub, 1) := by decide +kernel
theorem d_X_split_37 : decode b_X_split 37 = .ok (.lmul, 1) := by decide +kernel
theorem d_X_split_38 : decode b_X_split 38 = .ok (.lload_n 2, 1) := by decide +kernel
theorem d_X_split_39 : decode b_X_split 39 = .ok (.lload 4, 2) := by decide +kernel
theorem d_X_split_41 : decode b_X_split 41 = .ok (.lsub, 1) := by decide +kernel
theorem d_X_split_42 : decode b_X_split 42 = .ok (.ldiv, 1) := by decide +kernel
theorem d_X_split_43 : decode b_X_split 43 = .ok (.lstore 12, 2) := by decide +kernel
theorem d_X_split_45 : decode b_X_split 45 = .ok (.aload_n 0, 1) := by decide +kernel
theorem d_X_split_46 : decode b_X_split 46 = .ok (.lload 10, 2) := by decide +kernel
theorem d_X_split_48 : decode b_X_split 48 = .ok (.lload_n 2, 1) := by decide +kernel
theorem d_X_split_49 : decode b_X_split 49 = .ok (.aload_n 0, 1) := by decide +kernel
theorem d_X_split_50 : decode b_X_split 50 = .ok (.getfield 16, 3) := by decide +kernel
theorem d_X_split_53 : decode b_X_split 53 = .ok (.iload_n 1, 1) := by decide +kernel
theorem d_X_split_54 : decode b_X_split 54 = .ok (.laload, 1) := by decide +kernel
theorem d_X_split_55 : decode b_X_split 55 = .ok (.ldc2_w 83, 3) := by decide +kernel
theorem d_X_split_58 : decode b_X_split 58 = .ok (.lload_n 2, 1) := by decide +kernel
theorem d_X_split_59 : decode b_X_split 59 = .ok (.lsub, 1) := by decide +kernel
theorem d_X_split_60 : decode b_X_split 60 = .ok (.lmul, 1) := by decide +kernel
theorem d_X_split_61 : decode b_X_split 61 = .ok (.ldc2_w 83, 3) := by decide +kernel
theorem d_X_split_64 : decode b_X_split 64 = .ok (.lload 8, 2) := by decide +kernel
theorem d_X_split_66 : decode b_X_split 66 = .ok (.lsub, 1) := by decide +kernel
theorem d_X_split_67 : decode b_X_split 67 = .ok (.ldiv, 1) := by decide +kernel
theorem d_X_split_68 : decode b_X_split 68 = .ok (.invokevirtual 75, 3) := by decide +kernel
theorem d_X_split_71 : decode b_X_split 71 = .ok (.istore 14, 2) := by decide +kernel
theorem d_X_split_73 : decode b_X_split 73 = .ok (.aload_n 0, 1) := by decide +kernel
theorem d_X_split_74 : decode b_X_split 74 = .ok (.lload 12, 2) := by decide +kernel
theorem d_X_split_76 : decode b_X_split 76 = .ok (.lload 4, 2) := by decide +kernel
theorem d_X_split_78 : decode b_X_split 78 = .ok (.aload_n 0, 1) := by decide +kernel
theorem d_X_split_79 : decode b_X_split 79 = .ok (.getfield 16, 3) := by decide +kernel
theorem d_X_split_82 : decode b_X_split 82 = .ok (.iload_n 1, 1) := by decide +kernel
theorem d_X_split_83 : decode b_X_split 83 = .ok (.laload, 1) := by decide +kernel
theorem d_X_split_84 : decode b_X_split 84 = .ok (.ldc2_w 83, 3) := by decide +kernel
theorem d_X_split_87 : decode b_X_split 87 = .ok (.lload 4, 2) := by decide +kernel
theorem d_X_split_89 : decode b_X_split 89 = .ok (.lsub, 1) := by decide +kernel
theorem d_X_split_90 : decode b_X_split 90 = .ok (.lmul, 1) := by decide +kernel
theorem d_X_split_91 : decode b_X_split 91 = .ok (.ldc2_w 83, 3) := by decide +kernel
theorem d_X_split_94 : decode b_X_split 94 = .ok (.lload 8, 2) := by decide +kernel
theorem d_X_split_96 : decode b_X_split 96 = .ok (.lsub, 1) := by decide +kernel
theorem d_X_split_97 : decode b_X_split 97 = .ok (.ldiv, 1) := by decide +kernel
theorem d_X_split_98 : decode b_X_split 98 = .ok (.invokevirtual 75, 3) := by decide +kernel
theorem d_X_split_101 : decode b_X_split 101 = .ok (.pop, 1) := by decide +kernel
theorem d_X_split_102 : decode b_X_split 102 = .ok (.aload_n 0, 1) := by decide +kernel
theorem d_X_split_103 : decode b_X_split 103 = .ok (.getfield 27, 3) := by decide +kernel
theorem d_X_split_106 : decode b_X_split 106 = .ok (.aload_n 0, 1) := by decide +kernel
theorem d_X_split_107 : decode b_X_split 107 = .ok (.getfield 30, 3) := by decide +kernel
theorem d_X_split_110 : decode b_X_split 110 = .ok (.lload 6, 2) := by decide +kernel
theorem d_X_split_112 : decode b_X_split 112 = .ok (.lload 10, 2) := by decide +kernel
theorem d_X_split_114 : decode b_X_split 114 = .ok (.lsub, 1) := by decide +kernel
theorem d_X_split_115 : decode b_X_split 115 = .ok (.lload 12, 2) := by decide +kernel
theorem d_X_split_117 : decode b_X_split 117 = .ok (.lsub, 1) := by decide +kernel
theorem d_X_split_118 : decode b_X_split 118 = .ok (.lastore, 1) := by decide +kernel
theorem d_X_split_119 : decode b_X_split 119 = .ok (.aload_n 0, 1) := by decide +kernel
theorem d_X_split_120 : decode b_X_split 120 = .ok (.dup, 1) := by decide +kernel
theorem d_X_split_121 : decode b_X_split 121 = .ok (.getfield 30, 3) := by decide +kernel
theorem d_X_split_124 : decode b_X_split 124 = .ok (.iconst 1, 1) := by decide +kernel
theorem d_X_split_125 : decode b_X_split 125 = .ok (.iadd, 1) := by decide +kernel
theorem d_X_split_126 : decode b_X_split 126 = .ok (.putfield 30, 3) := by decide +kernel
theorem d_X_split_129 : decode b_X_split 129 = .ok (.aload_n 0, 1) := by decide +kernel
theorem d_X_split_130 : decode b_X_split 130 = .ok (.getfield 19, 3) := by decide +kernel
theorem d_X_split_133 : decode b_X_split 133 = .ok (.iload_n 1, 1) := by decide +kernel
theorem d_X_split_134 : decode b_X_split 134 = .ok (.iconst 1, 1) := by decide +kernel
theorem d_X_split_135 : decode b_X_split 135 = .ok (.bastore, 1) := by decide +kernel
theorem d_X_split_136 : decode b_X_split 136 = .ok (.aload_n 0, 1) := by decide +kernel
theorem d_X_split_137 : decode b_X_split 137 = .ok (.iload_n 1, 1) := by decide +kernel
theorem d_X_split_138 : decode b_X_split 138 = .ok (.invokevirtual 156, 3) := by decide +kernel
theorem d_X_split_141 : decode b_X_split 141 = .ok (.iload 14, 2) := by decide +kernel
theorem d_X_split_143 : decode b_X_split 143 = .ok (.ireturn, 1) := by decide +kernel
theorem d_X_unchoose_0 : decode b_X_unchoose 0 = .ok (.aload_n 0, 1) := by decide +kernel
theorem d_X_unchoose_1 : decode b_X_unchoose 1 = .ok (.iload_n 1, 1) := by decide +kernel
theorem d_X_unchoose_2 : decode b_X_unchoose 2 = .ok (.invokevirtual 93, 3) := by decide +kernel
theorem d_X_unchoose_5 : decode b_X_unchoose 5 = .ok (.istore_n 2, 1) := by decide +kernel
theorem d_X_unchoose_6 : decode b_X_unchoose 6 = .ok (.iload_n 2, 1) := by decide +kernel
theorem d_X_unchoose_7 : decode b_X_unchoose 7 = .ok (.iconst (-1), 1) := by decide +kernel
theorem d_X_unchoose_8 : decode b_X_unchoose 8 = .ok (.if_icmp .ne 4, 3) := by decide +kernel
theorem d_X_unchoose_11 : decode b_X_unchoose 11 = .ok (.return_, 1) := by decide +kernel
theorem d_X_unchoose_12 : decode b_X_unchoose 12 = .ok (.iload_n 2, 1) := by decide +kernel
theorem d_X_unchoose_13 : decode b_X_unchoose 13 = .ok (.iconst 1, 1) := by decide +kernel
theorem d_X_unchoose_14 : decode b_X_unchoose 14 = .ok (.iadd, 1) := by decide +kernel
theorem d_X_unchoose_15 : decode b_X_unchoose 15 = .ok (.istore_n 3, 1) := by decide +kernel
theorem d_X_unchoose_16 : decode b_X_unchoose 16 = .ok (.iload_n 3, 1) := by decide +kernel
theorem d_X_unchoose_17 : decode b_X_unchoose 17 = .ok (.aload_n 0, 1) := by decide +kernel
theorem d_X_unchoose_18 : decode b_X_unchoose 18 = .ok (.getfield 46, 3) := by decide +kernel
theorem d_X_unchoose_21 : decode b_X_unchoose 21 = .ok (.if_icmp .ge 23, 3) := by decide +kernel
theorem d_X_unchoose_24 : decode b_X_unchoose 24 = .ok (.aload_n 0, 1) := by decide +kernel
theorem d_X_unchoose_25 : decode b_X_unchoose 25 = .ok (.getfield 42, 3) := by decide +kernel
theorem d_X_unchoose_28 : decode b_X_unchoose 28 = .ok (.iload_n 3, 1) := by decide +kernel
theorem d_X_unchoose_29 : decode b_X_unchoose 29 = .ok (.iconst 1, 1) := by decide +kernel
theorem d_X_unchoose_30 : decode b_X_unchoose 30 = .ok (.isub, 1) := by decide +kernel
theorem d_X_unchoose_31 : decode b_X_unchoose 31 = .ok (.aload_n 0, 1) := by decide +kernel
theorem d_X_unchoose_32 : decode b_X_unchoose 32 = .ok (.getfield 42, 3) := by decide +kernel
theorem d_X_unchoose_35 : decode b_X_unchoose 35 = .ok (.iload_n 3, 1) := by decide +kernel
theorem d_X_unchoose_36 : decode b_X_unchoose 36 = .ok (.iaload, 1) := by decide +kernel
theorem d_X_unchoose_37 : decode b_X_unchoose 37 = .ok (.iastore, 1) := by decide +kernel
theorem d_X_unchoose_38 : decode b_X_unchoose 38 = .ok (.iinc 3 1, 3) := by decide +kernel
theorem d_X_unchoose_41 : decode b_X_unchoose 41 = .ok (.goto (-25), 3) := by decide +kernel
theorem d_X_unchoose_44 : decode b_X_unchoose 44 = .ok (.aload_n 0, 1) := by decide +kernel
theorem d_X_unchoose_45 : decode b_X_unchoose 45 = .ok (.dup, 1) := by decide +kernel
theorem d_X_unchoose_46 : decode b_X_unchoose 46 = .ok (.getfield 46, 3) := by decide +kernel
theorem d_X_unchoose_49 : decode b_X_unchoose 49 = .ok (.iconst 1, 1) := by decide +kernel
theorem d_X_unchoose_50 : decode b_X_unchoose 50 = .ok (.isub, 1) := by decide +kernel
theorem d_X_unchoose_51 : decode b_X_unchoose 51 = .ok (.putfield 46, 3) := by decide +kernel
theorem d_X_unchoose_54 : decode b_X_unchoose 54 = .ok (.return_, 1) := by decide +kernel
theorem d_X_placeAmongChosen_0 : decode b_X_placeAmongChosen 0 = .ok (.iconst 0, 1) := by decide +kernel
theorem d_X_placeAmongChosen_1 : decode b_X_placeAmongChosen 1 = .ok (.istore_n 2, 1) := by decide +kernel
theorem d_X_placeAmongChosen_2 : decode b_X_placeAmongChosen 2 = .ok (.iload_n 2, 1) := by decide +kernel
theorem d_X_placeAmongChosen_3 : decode b_X_placeAmongChosen 3 = .ok (.aload_n 0, 1) := by decide +kernel
theorem d_X_placeAmongChosen_4 : decode b_X_placeAmongChosen 4 = .ok (.getfield 46, 3) := by decide +kernel
theorem d_X_placeAmongChosen_7 : decode b_X_placeAmongChosen 7 = .ok (.if_icmp .ge 21, 3) := by decide +kernel
theorem d_X_placeAmongChosen_10 : decode b_X_placeAmongChosen 10 = .ok (.aload_n 0, 1) := by decide +kernel
theorem d_X_placeAmongChosen_11 : decode b_X_placeAmongChosen 11 = .ok (.getfield 42, 3) := by decide +kernel
theorem d_X_placeAmongChosen_14 : decode b_X_placeAmongChosen 14 = .ok (.iload_n 2, 1) := by decide +kernel
theorem d_X_placeAmongChosen_15 : decode b_X_placeAmongChosen 15 = .ok (.iaload, 1) := by decide +kernel
theorem d_X_placeAmongChosen_16 : decode b_X_placeAmongChosen 16 = .ok (.iload_n 1, 1) := by decide +kernel
theorem d_X_placeAmongChosen_17 : decode b_X_placeAmongChosen 17 = .ok (.if_icmp .ne 5, 3) := by decide +kernel
theorem d_X_placeAmongChosen_20 : decode b_X_placeAmongChosen 20 = .ok (.iload_n 2, 1) := by decide +kernel
theorem d_X_placeAmongChosen_21 : decode b_X_placeAmongChosen 21 = .ok (.ireturn, 1) := by decide +kernel
theorem d_X_placeAmongChosen_22 : decode b_X_placeAmongChosen 22 = .ok (.iinc 2 1, 3) := by decide +kernel
theorem d_X_placeAmongChosen_25 : decode b_X_placeAmongChosen 25 = .ok (.goto (-23), 3) := by decide +kernel
theorem d_X_placeAmongChosen_28 : decode b_X_placeAmongChosen 28 = .ok (.iconst (-1), 1) := by decide +kernel
theorem d_X_placeAmongChosen_29 : decode b_X_placeAmongChosen 29 = .ok (.ireturn, 1) := by decide +kernel
theorem d_X_choose_0 : decode b_X_choose 0 = .ok (.aload_n 0, 1) := by decide +kernel
theorem d_X_choose_1 : decode b_X_choose 1 = .ok (.iload_n 1, 1) := by decide +kernel
theorem d_X_choose_2 : decode b_X_choose 2 = .ok (.invokevirtual 79, 3) := by decide +kernel
theorem d_X_choose_5 : decode b_X_choose 5 = .ok (.ifCond .eq 20, 3) := by decide +kernel
theorem d_X_choose_8 : decode b_X_choose 8 = .ok (.aload_n 0, 1) := by decide +kernel
theorem d_X_choose_9 : decode b_X_choose 9 = .ok (.iload_n 1, 1) := by decide +kernel
theorem d_X_choose_10 : decode b_X_choose 10 = .ok (.invokevirtual 93, 3) := by decide +kernel
theorem d_X_choose_13 : decode b_X_choose 13 = .ok (.iconst (-1), 1) := by decide +kernel
theorem d_X_choose_14 : decode b_X_choose 14 = .ok (.if_icmp .ne 11, 3) := by decide +kernel
theorem d_X_choose_17 : decode b_X_choose 17 = .ok (.aload_n 0, 1) := by decide +kernel
theorem d_X_choose_18 : decode b_X_choose 18 = .ok (.getfield 46, 3) := by decide +kernel
theorem d_X_choose_21 : decode b_X_choose 21 = .ok (.iconst 4, 1) := by decide +kernel
theorem d_X_choose_22 : decode b_X_choose 22 = .ok (.if_icmp .lt 5, 3) := by decide +kernel
theorem d_X_choose_25 : decode b_X_choose 25 = .ok (.iconst 0, 1) := by decide +kernel
theorem d_X_choose_26 : decode b_X_choose 26 = .ok (.ireturn, 1) := by decide +kernel
theorem d_X_choose_27 : decode b_X_choose 27 = .ok (.aload_n 0, 1) := by decide +kernel
theorem d_X_choose_28 : decode b_X_choose 28 = .ok (.getfield 42, 3) := by decide +kernel
theorem d_X_choose_31 : decode b_X_choose 31 = .ok (.aload_n 0, 1) := by decide +kernel
theorem d_X_choose_32 : decode b_X_choose 32 = .ok (.getfield 46, 3) := by decide +kernel
theorem d_X_choose_35 : decode b_X_choose 35 = .ok (.iload_n 1, 1) := by decide +kernel
theorem d_X_choose_36 : decode b_X_choose 36 = .ok (.iastore, 1) := by decide +kernel
theorem d_X_choose_37 : decode b_X_choose 37 = .ok (.aload_n 0, 1) := by decide +kernel
theorem d_X_choose_38 : decode b_X_choose 38 = .ok (.dup, 1) := by decide +kernel
theorem d_X_choose_39 : decode b_X_choose 39 = .ok (.getfield 46, 3) := by decide +kernel
theorem d_X_choose_42 : decode b_X_choose 42 = .ok (.iconst 1, 1) := by decide +kernel
theorem d_X_choose_43 : decode b_X_choose 43 = .ok (.iadd, 1) := by decide +kernel
theorem d_X_choose_44 : decode b_X_choose 44 = .ok (.putfield 46, 3) := by decide +kernel
theorem d_X_choose_47 : decode b_X_choose 47 = .ok (.iconst 1, 1) := by decide +kernel
theorem d_X_choose_48 : decode b_X_choose 48 = .ok (.ireturn, 1) := by decide +kernel
theorem d_X_standard_0 : decode b_X_standard 0 = .ok (.aload_n 0, 1) := by decide +kernel
theorem d_X_standard_1 : decode b_X_standard 1 = .ok (.getfield 59, 3) := by decide +kernel
theorem d_X_standard_4 : decode b_X_standard 4 = .ok (.invokevirtual 97, 3) := by decide +kernel
theorem d_X_standard_7 : decode b_X_standard 7 = .ok (.lload_n 1, 1) := by decide +kernel
theorem d_X_standard_8 : decode b_X_standard 8 = .ok (.lload 5, 2) := by decide +kernel
theorem d_X_standard_10 : decode b_X_standard 10 = .ok (.invokestatic 63, 3) := by decide +kernel
theorem d_X_standard_13 : decode b_X_standard 13 = .ok (.lstore 7, 2) := by decide +kernel
theorem d_X_standard_15 : decode b_X_standard 15 = .ok (.lload_n 3, 1) := by decide +kernel
theorem d_X_standard_16 : decode b_X_standard 16 = .ok (.lload 5, 2) := by decide +kernel
theorem d_X_standard_18 : decode b_X_standard 18 = .ok (.invokestatic 63, 3) := by decide +kernel
theorem d_X_standard_21 : decode b_X_standard 21 = .ok (.lstore 9, 2) := by decide +kernel
theorem d_X_standard_23 : decode b_X_standard 23 = .ok (.aload_n 0, 1) := by decide +kernel
theorem d_X_standard_24 : decode b_X_standard 24 = .ok (.getfield 46, 3) := by decide +kernel
theorem d_X_standard_27 : decode b_X_standard 27 = .ok (.ifCond .eq 21, 3) := by decide +kernel
theorem d_X_standard_30 : decode b_X_standard 30 = .ok (.lload 7, 2) := by decide +kernel
theorem d_X_standard_32 : decode b_X_standard 32 = .ok (.ldc2_w 73, 3) := by decide +kernel
theorem d_X_standard_35 : decode b_X_standard 35 = .ok (.lcmp, 1) := by decide +kernel
theorem d_X_standard_36 : decode b_X_standard 36 = .ok (.ifCond .eq 12, 3) := by decide +kernel
theorem d_X_standard_39 : decode b_X_standard 39 = .ok (.lload 9, 2) := by decide +kernel
theorem d_X_standard_41 : decode b_X_standard 41 = .ok (.ldc2_w 73, 3) := by decide +kernel
theorem d_X_standard_44 : decode b_X_standard 44 = .ok (.lcmp, 1) := by decide +kernel
theorem d_X_standard_45 : decode b_X_standard 45 = .ok (.ifCond .ne 5, 3) := by decide +kernel
theorem d_X_standard_48 : decode b_X_standard 48 = .ok (.iconst (-1), 1) := by decide +kernel
theorem d_X_standard_49 : decode b_X_standard 49 = .ok (.ireturn, 1) := by decide +kernel
theorem d_X_standard_50 : decode b_X_standard 50 = .ok (.iconst 0, 1) := by decide +kernel
theorem d_X_standard_51 : decode b_X_standard 51 = .ok (.istore 11, 2) := by decide +kernel
theorem d_X_standard_53 : decode b_X_standard 53 = .ok (.iload 11, 2) := by decide +kernel
theorem d_X_standard_55 : decode b_X_standard 55 = .ok (.aload_n 0, 1) := by decide +kernel
theorem d_X_standard_56 : decode b_X_standard 56 = .ok (.getfield 46, 3) := by decide +kernel
theorem d_X_standard_59 : decode b_X_standard 59 = .ok (.if_icmp .ge 41, 3) := by decide +kernel
theorem d_X_standard_62 : decode b_X_standard 62 = .ok (.aload_n 0, 1) := by decide +kernel
theorem d_X_standard_63 : decode b_X_standard 63 = .ok (.getfield 42, 3) := by decide +kernel
theorem d_X_standard_66 : decode b_X_standard 66 = .ok (.iload 11, 2) := by decide +kernel
theorem d_X_standard_68 : decode b_X_standard 68 = .ok (.iaload, 1) := by decide +kernel
theorem d_X_standard_69 : decode b_X_standard 69 = .ok (.istore 12, 2) := by decide +kernel
theorem d_X_standard_71 : decode b_X_standard 71 = .ok (.aload_n 0, 1) := by decide +kernel
theorem d_X_standard_72 : decode b_X_standard 72 = .ok (.getfield 59, 3) := by decide +kernel
theorem d_X_standard_75 : decode b_X_standard 75 = .ok (.iload 12, 2) := by decide +kernel
theorem d_X_standard_77 : decode b_X_standard 77 = .ok (.aload_n 0, 1) := by decide +kernel
theorem d_X_standard_78 : decode b_X_standard 78 = .ok (.getfield 13, 3) := by decide +kernel
theorem d_X_standard_81 : decode b_X_standard 81 = .ok (.iload 12, 2) := by decide +kernel
theorem d_X_standard_83 : decode b_X_standard 83 = .ok (.laload, 1) := by decide +kernel
theorem d_X_standard_84 : decode b_X_standard 84 = .ok (.aload_n 0, 1) := by decide +kernel
theorem d_X_standard_85 : decode b_X_standard 85 = .ok (.getfield 16, 3) := by decide +kernel
theorem d_X_standard_88 : decode b_X_standard 88 = .ok (.iload 12, 2) := by decide +kernel
theorem d_X_standard_90 : decode b_X_standard 90 = .ok (.laload, 1) := by decide +kernel
theorem d_X_standard_91 : decode b_X_standard 91 = .ok (.invokevirtual 100, 3) := by decide +kernel
theorem d_X_standard_94 : decode b_X_standard 94 = .ok (.iinc 11 1, 3) := by decide +kernel
theorem d_X_standard_97 : decode b_X_standard 97 = .ok (.goto (-44), 3) := by decide +kernel
theorem d_X_standard_100 : decode b_X_standard 100 = .ok (.aload_n 0, 1) := by decide +kernel
theorem d_X_standard_101 : decode b_X_standard 101 = .ok (.getfield 59, 3) := by decide +kernel
theorem d_X_standard_104 : decode b_X_standard 104 = .ok (.lload 7, 2) := by decide +kernel
theorem d_X_standard_106 : decode b_X_standard 106 = .ok (.lload 9, 2) := by decide +kernel
theorem d_X_standard_108 : decode b_X_standard 108 = .ok (.invokevirtual 104, 3) := by decide +kernel
theorem d_X_standard_111 : decode b_X_standard 111 = .ok (.ifCond .eq 7, 3) := by decide +kernel
theorem d_X_standard_114 : decode b_X_standard 114 = .ok (.iconst 0, 1) := by decide +kernel
theorem d_X_standard_115 : decode b_X_standard 115 = .ok (.goto 4, 3) := by decide +kernel
theorem d_X_standard_118 : decode b_X_standard 118 = .ok (.iconst 1, 1) := by decide +kernel
theorem d_X_standard_119 : decode b_X_standard 119 = .ok (.ireturn, 1) := by decide +kernel
theorem d_X_share_0 : decode b_X_share 0 = .ok (.aload_n 0, 1) := by decide +kernel
theorem d_X_share_1 : decode b_X_share 1 = .ok (.getfield 59, 3) := by decide +kernel
theorem d_X_share_4 : decode b_X_share 4 = .ok (.invokevirtual 108, 3) := by decide +kernel
theorem d_X_share_7 : decode b_X_share 7 = .ok (.ifCond .eq 21, 3) := by decide +kernel
theorem d_X_share_10 : decode b_X_share 10 = .ok (.aload_n 0, 1) := by decide +kernel
theorem d_X_share_11 : decode b_X_share 11 = .ok (.iload_n 1, 1) := by decide +kernel
theorem d_X_share_12 : decode b_X_share 12 = .ok (.invokevirtual 112, 3) := by decide +kernel
theorem d_X_share_15 : decode b_X_share 15 = .ok (.ifCond .eq 13, 3) := by decide +kernel
theorem d_X_share_18 : decode b_X_share 18 = .ok (.iload_n 2, 1) := by decide +kernel
theorem d_X_share_19 : decode b_X_share 19 = .ok (.i2l, 1) := by decide +kernel
theorem d_X_share_20 : decode b_X_share 20 = .ok (.lconst 0, 1) := by decide +kernel
theorem d_X_share_21 : decode b_X_share 21 = .ok (.lconst 1, 1) := by decide +kernel
theorem d_X_share_22 : decode b_X_share 22 = .ok (.invokestatic 69, 3) := by decide +kernel
theorem d_X_share_25 : decode b_X_share 25 = .ok (.ifCond .ne 7, 3) := by decide +kernel
theorem d_X_share_28 : decode b_X_share 28 = .ok (.ldc2_w 73, 3) := by decide +kernel
theorem d_X_share_31 : decode b_X_share 31 = .ok (.lreturn, 1) := by decide +kernel
theorem d_X_share_32 : decode b_X_share 32 = .ok (.aload_n 0, 1) := by decide +kernel
theorem d_X_share_33 : decode b_X_share 33 = .ok (.getfield 59, 3) := by decide +kernel
theorem d_X_share_36 : decode b_X_share 36 = .ok (.iload_n 1, 1) := by decide +kernel
theorem d_X_share_37 : decode b_X_share 37 = .ok (.invokevirtual 115, 3) := by decide +kernel
theorem d_X_share_40 : decode b_X_share 40 = .ok (.aload_n 0, 1) := by decide +kernel
theorem d_X_share_41 : decode b_X_share 41 = .ok (.getfield 59, 3) := by decide +kernel
theorem d_X_share_44 : decode b_X_share 44 = .ok (.invokevirtual 119, 3) := by decide +kernel
theorem d_X_share_47 : decode b_X_share 47 = .ok (.iload_n 2, 1) := by decide +kernel
theorem d_X_share_48 : decode b_X_share 48 = .ok (.invokestatic 123, 3) := by decide +kernel
theorem d_X_share_51 : decode b_X_share 51 = .ok (.lreturn, 1) := by decide +kernel
theorem d_X_reducedPart_0 : decode b_X_reducedPart 0 = .ok (.lload_n 0, 1) := by decide +kernel
theorem d_X_reducedPart_1 : decode b_X_reducedPart 1 = .ok (.lload_n 2, 1) := by decide +kernel
theorem d_X_reducedPart_2 : decode b_X_reducedPart 2 = .ok (.invokestatic 178, 3) := by decide +kernel
theorem d_X_reducedPart_5 : decode b_X_reducedPart 5 = .ok (.lstore 5, 2) := by decide +kernel
theorem d_X_reducedPart_7 : decode b_X_reducedPart 7 = .ok (.iload 4, 2) := by decide +kernel
theorem d_X_reducedPart_9 : decode b_X_reducedPart 9 = .ok (.ifCond .ne 10, 3) := by decide +kernel
theorem d_X_reducedPart_12 : decode b_X_reducedPart 12 = .ok (.lload_n 0, 1) := by decide +kernel
theorem d_X_reducedPart_13 : decode b_X_reducedPart 13 = .ok (.lload 5, 2) := by decide +kernel
theorem d_X_reducedPart_15 : decode b_X_reducedPart 15 = .ok (.ldiv, 1) := by decide +kernel
theorem d_X_reducedPart_16 : decode b_X_reducedPart 16 = .ok (.goto 7, 3) := by decide +kernel
theorem d_X_reducedPart_19 : decode b_X_reducedPart 19 = .ok (.lload_n 2, 1) := by decide +kernel
theorem d_X_reducedPart_20 : decode b_X_reducedPart 20 = .ok (.lload 5, 2) := by decide +kernel
theorem d_X_reducedPart_22 : decode b_X_reducedPart 22 = .ok (.ldiv, 1) := by decide +kernel
theorem d_X_reducedPart_23 : decode b_X_reducedPart 23 = .ok (.lreturn, 1) := by decide +kernel
theorem d_X_commonDivisor_0 : decode b_X_commonDivisor 0 = .ok (.lload_n 0, 1) := by decide +kernel
theorem d_X_commonDivisor_1 : decode b_X_commonDivisor 1 = .ok (.lstore 4, 2) := by decide +kernel
theorem d_X_commonDivisor_3 : decode b_X_commonDivisor 3 = .ok (.lload_n 2, 1) := by decide +kernel
theorem d_X_commonDivisor_4 : decode b_X_commonDivisor 4 = .ok (.lstore 6, 2) := by decide +kernel
theorem d_X_commonDivisor_6 : decode b_X_commonDivisor 6 = .ok (.iconst 0, 1) := by decide +kernel
theorem d_X_commonDivisor_7 : decode b_X_commonDivisor 7 = .ok (.istore 8, 2) := by decide +kernel
theorem d_X_commonDivisor_9 : decode b_X_commonDivisor 9 = .ok (.iload 8, 2) := by decide +kernel
theorem d_X_commonDivisor_11 : decode b_X_commonDivisor 11 = .ok (.bipush 100, 2) := by decide +kernel
theorem d_X_commonDivisor_13 : decode b_X_commonDivisor 13 = .ok (.if_icmp .ge 31, 3) := by decide +kernel
theorem d_X_commonDivisor_16 : decode b_X_commonDivisor 16 = .ok (.lload 6, 2) := by decide +kernel
theorem d_X_commonDivisor_18 : decode b_X_commonDivisor 18 = .ok (.lconst 0, 1) := by decide +kernel
theorem d_X_commonDivisor_19 : decode b_X_commonDivisor 19 = .ok (.lcmp, 1) := by decide +kernel
theorem d_X_commonDivisor_20 : decode b_X_commonDivisor 20 = .ok (.ifCond .eq 24, 3) := by decide +kernel
theorem d_X_commonDivisor_23 : decode b_X_commonDivisor 23 = .ok (.lload 4, 2) := by decide +kernel
theorem d_X_commonDivisor_25 : decode b_X_commonDivisor 25 = .ok (.lload 6, 2) := by decide +kernel
theorem d_X_commonDivisor_27 : decode b_X_commonDivisor 27 = .ok (.lrem, 1) := by decide +kernel
theorem d_X_commonDivisor_28 : decode b_X_commonDivisor 28 = .ok (.lstore 9, 2) := by decide +kernel
theorem d_X_commonDivisor_30 : decode b_X_commonDivisor 30 = .ok (.lload 6, 2) := by decide +kernel
theorem d_X_commonDivisor_32 : decode b_X_commonDivisor 32 = .ok (.lstore 4, 2) := by decide +kernel
theorem d_X_commonDivisor_34 : decode b_X_commonDivisor 34 = .ok (.lload 9, 2) := by decide +kernel
theorem d_X_commonDivisor_36 : decode b_X_commonDivisor 36 = .ok (.lstore 6, 2) := by decide +kernel
theorem d_X_commonDivisor_38 : decode b_X_commonDivisor 38 = .ok (.iinc 8 1, 3) := by decide +kernel
theorem d_X_commonDivisor_41 : decode b_X_commonDivisor 41 = .ok (.goto (-32), 3) := by decide +kernel
theorem d_X_commonDivisor_44 : decode b_X_commonDivisor 44 = .ok (.lconst 1, 1) := by decide +kernel
theorem d_X_commonDivisor_45 : decode b_X_commonDivisor 45 = .ok (.lload 4, 2) := by decide +kernel
theorem d_X_commonDivisor_47 : decode b_X_commonDivisor 47 = .ok (.invokestatic 148, 3) := by decide +kernel
theorem d_X_commonDivisor_50 : decode b_X_commonDivisor 50 = .ok (.lreturn, 1) := by decide +kernel
theorem d_X_yieldOf_0 : decode b_X_yieldOf 0 = .ok (.aload_n 0, 1) := by decide +kernel
theorem d_X_yieldOf_1 : decode b_X_yieldOf 1 = .ok (.iload_n 1, 1) := by decide +kernel
theorem d_X_yieldOf_2 : decode b_X_yieldOf 2 = .ok (.invokevirtual 112, 3) := by decide +kernel
theorem d_X_yieldOf_5 : decode b_X_yieldOf 5 = .ok (.ifCond .eq 27, 3) := by decide +kernel
theorem d_X_yieldOf_8 : decode b_X_yieldOf 8 = .ok (.iload_n 2, 1) := by decide +kernel
theorem d_X_yieldOf_9 : decode b_X_yieldOf 9 = .ok (.i2l, 1) := by decide +kernel
theorem d_X_yieldOf_10 : decode b_X_yieldOf 10 = .ok (.lconst 0, 1) := by decide +kernel
theorem d_X_yieldOf_11 : decode b_X_yieldOf 11 = .ok (.ldc2_w 127, 3) := by decide +kernel
theorem d_X_yieldOf_14 : decode b_X_yieldOf 14 = .ok (.invokestatic 69, 3) := by decide +kernel
theorem d_X_yieldOf_17 : decode b_X_yieldOf 17 = .ok (.ifCond .eq 15, 3) := by decide +kernel
theorem d_X_yieldOf_20 : decode b_X_yieldOf 20 = .ok (.iload_n 3, 1) := by decide +kernel
theorem d_X_yieldOf_21 : decode b_X_yieldOf 21 = .ok (.i2l, 1) := by decide +kernel
theorem d_X_yieldOf_22 : decode b_X_yieldOf 22 = .ok (.lconst 0, 1) := by decide +kernel
theorem d_X_yieldOf_23 : decode b_X_yieldOf 23 = .ok (.ldc2_w 127, 3) := by decide +kernel
theorem d_X_yieldOf_26 : decode b_X_yieldOf 26 = .ok (.invokestatic 69, 3) := by decide +kernel
theorem d_X_yieldOf_29 : decode b_X_yieldOf 29 = .ok (.ifCond .ne 7, 3) := by decide +kernel
theorem d_X_yieldOf_32 : decode b_X_yieldOf 32 = .ok (.ldc2_w 73, 3) := by decide +kernel
theorem d_X_yieldOf_35 : decode b_X_yieldOf 35 = .ok (.lreturn, 1) := by decide +kernel
theorem d_X_yieldOf_36 : decode b_X_yieldOf 36 = .ok (.aload_n 0, 1) := by decide +kernel
theorem d_X_yieldOf_37 : decode b_X_yieldOf 37 = .ok (.iload_n 1, 1) := by decide +kernel
theorem d_X_yieldOf_38 : decode b_X_yieldOf 38 = .ok (.iload_n 2, 1) := by decide +kernel
theorem d_X_yieldOf_39 : decode b_X_yieldOf 39 = .ok (.invokevirtual 129, 3) := by decide +kernel
theorem d_X_yieldOf_42 : decode b_X_yieldOf 42 = .ok (.lstore 4, 2) := by decide +kernel
theorem d_X_yieldOf_44 : decode b_X_yieldOf 44 = .ok (.iload_n 2, 1) := by decide +kernel
theorem d_X_yieldOf_45 : decode b_X_yieldOf 45 = .ok (.invokestatic 133, 3) := by decide +kernel
theorem d_X_yieldOf_48 : decode b_X_yieldOf 48 = .ok (.lstore 6, 2) := by decide +kernel
theorem d_X_yieldOf_50 : decode b_X_yieldOf 50 = .ok (.iload_n 3, 1) := by decide +kernel
theorem d_X_yieldOf_51 : decode b_X_yieldOf 51 = .ok (.iconst 2, 1) := by decide +kernel
theorem d_X_yieldOf_52 : decode b_X_yieldOf 52 = .ok (.if_icmp .ne 13, 3) := by decide +kernel
theorem d_X_yieldOf_55 : decode b_X_yieldOf 55 = .ok (.lload 4, 2) := by decide +kernel
theorem d_X_yieldOf_57 : decode b_X_yieldOf 57 = .ok (.lload 6, 2) := by decide +kernel
theorem d_X_yieldOf_59 : decode b_X_yieldOf 59 = .ok (.invokestatic 136, 3) := by decide +kernel
theorem d_X_yieldOf_62 : decode b_X_yieldOf 62 = .ok (.goto 11, 3) := by decide +kernel
theorem d_X_yieldOf_65 : decode b_X_yieldOf 65 = .ok (.lload 4, 2) := by decide +kernel
theorem d_X_yieldOf_67 : decode b_X_yieldOf 67 = .ok (.lload 6, 2) := by decide +kernel
theorem d_X_yieldOf_69 : decode b_X_yieldOf 69 = .ok (.iload_n 3, 1) := by decide +kernel
theorem d_X_yieldOf_70 : decode b_X_yieldOf 70 = .ok (.invokestatic 123, 3) := by decide +kernel
theorem d_X_yieldOf_73 : decode b_X_yieldOf 73 = .ok (.lreturn, 1) := by decide +kernel
theorem d_X_yieldAbove_0 : decode b_X_yieldAbove 0 = .ok (.aload_n 0, 1) := by decide +kernel
theorem d_X_yieldAbove_1 : decode b_X_yieldAbove 1 = .ok (.getfield 9, 3) := by decide +kernel
theorem d_X_yieldAbove_4 : decode b_X_yieldAbove 4 = .ok (.iload_n 1, 1) := by decide +kernel
theorem d_X_yieldAbove_5 : decode b_X_yieldAbove 5 = .ok (.laload, 1) := by decide +kernel
theorem d_X_yieldAbove_6 : decode b_X_yieldAbove 6 = .ok (.lstore_n 3, 1) := by decide +kernel
theorem d_X_yieldAbove_7 : decode b_X_yieldAbove 7 = .ok (.aload_n 0, 1) := by decide +kernel
theorem d_X_yieldAbove_8 : decode b_X_yieldAbove 8 = .ok (.getfield 13, 3) := by decide +kernel
theorem d_X_yieldAbove_11 : decode b_X_yieldAbove 11 = .ok (.iload_n 1, 1) := by decide +kernel
theorem d_X_yieldAbove_12 : decode b_X_yieldAbove 12 = .ok (.laload, 1) := by decide +kernel
theorem d_X_yieldAbove_13 : decode b_X_yieldAbove 13 = .ok (.lstore 5, 2) := by decide +kernel
theorem d_X_yieldAbove_15 : decode b_X_yieldAbove 15 = .ok (.aload_n 0, 1) := by decide +kernel
theorem d_X_yieldAbove_16 : decode b_X_yieldAbove 16 = .ok (.getfield 16, 3) := by decide +kernel
theorem d_X_yieldAbove_19 : decode b_X_yieldAbove 19 = .ok (.iload_n 1, 1) := by decide +kernel
theorem d_X_yieldAbove_20 : decode b_X_yieldAbove 20 = .ok (.laload, 1) := by decide +kernel
theorem d_X_yieldAbove_21 : decode b_X_yieldAbove 21 = .ok (.lstore 7, 2) := by decide +kernel
theorem d_X_yieldAbove_23 : decode b_X_yieldAbove 23 = .ok (.iload_n 2, 1) := by decide +kernel
theorem d_X_yieldAbove_24 : decode b_X_yieldAbove 24 = .ok (.lookupswitch 53 #[(0, 28), (1, 48)], 28) := by decide +kernel
theorem d_X_yieldAbove_52 : decode b_X_yieldAbove 52 = .ok (.lload_n 3, 1) := by decide +kernel
theorem d_X_yieldAbove_53 : decode b_X_yieldAbove 53 = .ok (.ldc2_w 160, 3) := by decide +kernel
theorem d_X_yieldAbove_56 : decode b_X_yieldAbove 56 = .ok (.lload 5, 2) := by decide +kernel
theorem d_X_yieldAbove_58 : decode b_X_yieldAbove 58 = .ok (.lmul, 1) := by decide +kernel
theorem d_X_yieldAbove_59 : decode b_X_yieldAbove 59 = .ok (.ldc2_w 162, 3) := by decide +kernel
theorem d_X_yieldAbove_62 : decode b_X_yieldAbove 62 = .ok (.lload 7, 2) := by decide +kernel
theorem d_X_yieldAbove_64 : decode b_X_yieldAbove 64 = .ok (.lmul, 1) := by decide +kernel
theorem d_X_yieldAbove_65 : decode b_X_yieldAbove 65 = .ok (.ladd, 1) := by decide +kernel
theorem d_X_yieldAbove_66 : decode b_X_yieldAbove 66 = .ok (.lmul, 1) := by decide +kernel
theorem d_X_yieldAbove_67 : decode b_X_yieldAbove 67 = .ok (.ldc2_w 164, 3) := by decide +kernel
theorem d_X_yieldAbove_70 : decode b_X_yieldAbove 70 = .ok (.lmul, 1) := by decide +kernel
theorem d_X_yieldAbove_71 : decode b_X_yieldAbove 71 = .ok (.lreturn, 1) := by decide +kernel
theorem d_X_yieldAbove_72 : decode b_X_yieldAbove 72 = .ok (.lload_n 3, 1) := by decide +kernel
theorem d_X_yieldAbove_73 : decode b_X_yieldAbove 73 = .ok (.lload 5, 2) := by decide +kernel
theorem d_X_yieldAbove_75 : decode b_X_yieldAbove 75 = .ok (.lmul, 1) := by decide +kernel
theorem d_X_yieldAbove_76 : decode b_X_yieldAbove 76 = .ok (.lreturn, 1) := by decide +kernel
theorem d_X_yieldAbove_77 : decode b_X_yieldAbove 77 = .ok (.lload_n 3, 1) := by decide +kernel
theorem d_X_yieldAbove_78 : decode b_X_yieldAbove 78 = .ok (.lload 5, 2) := by decide +kernel
theorem d_X_yieldAbove_80 : decode b_X_yieldAbove 80 = .ok (.lload 7, 2) := by decide +kernel
theorem d_X_yieldAbove_82 : decode b_X_yieldAbove 82 = .ok (.ladd, 1) := by decide +kernel
theorem d_X_yieldAbove_83 : decode b_X_yieldAbove 83 = .ok (.lmul, 1) := by decide +kernel
theorem d_X_yieldAbove_84 : decode b_X_yieldAbove 84 = .ok (.lreturn, 1) := by decide +kernel
theorem d_X_yieldBelow_0 : decode b_X_yieldBelow 0 = .ok (.iload_n 0, 1) := by decide +kernel
theorem d_X_yieldBelow_1 : decode b_X_yieldBelow 1 = .ok (.lookupswitch 35 #[(0, 27), (1, 31)], 27) := by decide +kernel
theorem d_X_yieldBelow_28 : decode b_X_yieldBelow 28 = .ok (.ldc2_w 166, 3) := by decide +kernel
theorem d_X_yieldBelow_31 : decode b_X_yieldBelow 31 = .ok (.lreturn, 1) := by decide +kernel
theorem d_X_yieldBelow_32 : decode b_X_yieldBelow 32 = .ok (.ldc2_w 168, 3) := by decide +kernel
theorem d_X_yieldBelow_35 : decode b_X_yieldBelow 35 = .ok (.lreturn, 1) := by decide +kernel
theorem d_X_yieldBelow_36 : decode b_X_yieldBelow 36 = .ok (.ldc2_w 170, 3) := by decide +kernel
theorem d_X_yieldBelow_39 : decode b_X_yieldBelow 39 = .ok (.lreturn, 1) := by decide +kernel
theorem d_X_gramsOf_0 : decode b_X_gramsOf 0 = .ok (.ldc2_w 176, 3) := by decide +kernel
theorem d_X_gramsOf_3 : decode b_X_gramsOf 3 = .ok (.lload_n 0, 1) := by decide +kernel
theorem d_X_gramsOf_4 : decode b_X_gramsOf 4 = .ok (.lmul, 1) := by decide +kernel
theorem d_X_gramsOf_5 : decode b_X_gramsOf 5 = .ok (.lload_n 2, 1) := by decide +kernel
theorem d_X_gramsOf_6 : decode b_X_gramsOf 6 = .ok (.ladd, 1) := by decide +kernel
theorem d_X_gramsOf_7 : decode b_X_gramsOf 7 = .ok (.ldc2_w 127, 3) := by decide +kernel
theorem d_X_gramsOf_10 : decode b_X_gramsOf 10 = .ok (.lload_n 2, 1) := by decide +kernel
theorem d_X_gramsOf_11 : decode b_X_gramsOf 11 = .ok (.lmul, 1) := by decide +kernel
theorem d_X_gramsOf_12 : decode b_X_gramsOf 12 = .ok (.ldiv, 1) := by decide +kernel
theorem d_X_gramsOf_13 : decode b_X_gramsOf 13 = .ok (.lreturn, 1) := by decide +kernel
theorem d_X_loss_0 : decode b_X_loss 0 = .ok (.iload_n 1, 1) := by decide +kernel
theorem d_X_loss_1 : decode b_X_loss 1 = .ok (.ifCond .lt 11, 3) := by decide +kernel
theorem d_X_loss_4 : decode b_X_loss 4 = .ok (.iload_n 1, 1) := by decide +kernel
theorem d_X_loss_5 : decode b_X_loss 5 = .ok (.aload_n 0, 1) := by decide +kernel
theorem d_X_loss_6 : decode b_X_loss 6 = .ok (.getfield 30, 3) := by decide +kernel
theorem d_X_loss_9 : decode b_X_loss 9 = .ok (.if_icmp .lt 7, 3) := by decide +kernel
theorem d_X_loss_12 : decode b_X_loss 12 = .ok (.ldc2_w 73, 3) := by decide +kernel
theorem d_X_loss_15 : decode b_X_loss 15 = .ok (.lreturn, 1) := by decide +kernel
theorem d_X_loss_16 : decode b_X_loss 16 = .ok (.aload_n 0, 1) := by decide +kernel
theorem d_X_loss_17 : decode b_X_loss 17 = .ok (.getfield 27, 3) := by decide +kernel
theorem d_X_loss_20 : decode b_X_loss 20 = .ok (.iload_n 1, 1) := by decide +kernel
theorem d_X_loss_21 : decode b_X_loss 21 = .ok (.laload, 1) := by decide +kernel
theorem d_X_loss_22 : decode b_X_loss 22 = .ok (.lreturn, 1) := by decide +kernel
theorem d_X_penalty_0 : decode b_X_penalty 0 = .ok (.lload_n 1, 1) := by decide +kernel
theorem d_X_penalty_1 : decode b_X_penalty 1 = .ok (.lconst 1, 1) := by decide +kernel
theorem d_X_penalty_2 : decode b_X_penalty 2 = .ok (.ldc2_w 83, 3) := by decide +kernel
theorem d_X_penalty_5 : decode b_X_penalty 5 = .ok (.invokestatic 69, 3) := by decide +kernel
theorem d_X_penalty_8 : decode b_X_penalty 8 = .ok (.ifCond .eq 23, 3) := by decide +kernel
theorem d_X_penalty_11 : decode b_X_penalty 11 = .ok (.lload_n 3, 1) := by decide +kernel
theorem d_X_penalty_12 : decode b_X_penalty 12 = .ok (.lconst 1, 1) := by decide +kernel
theorem d_X_penalty_13 : decode b_X_penalty 13 = .ok (.ldc2_w 83, 3) := by decide +kernel
theorem d_X_penalty_16 : decode b_X_penalty 16 = .ok (.invokestatic 69, 3) := by decide +kernel
theorem d_X_penalty_19 : decode b_X_penalty 19 = .ok (.ifCond .eq 12, 3) := by decide +kernel
theorem d_X_penalty_22 : decode b_X_penalty 22 = .ok (.aload_n 0, 1) := by decide +kernel
theorem d_X_penalty_23 : decode b_X_penalty 23 = .ok (.getfield 39, 3) := by decide +kernel
theorem d_X_penalty_26 : decode b_X_penalty 26 = .ok (.bipush 10, 2) := by decide +kernel
theorem d_X_penalty_28 : decode b_X_penalty 28 = .ok (.if_icmp .lt 5, 3) := by decide +kernel
theorem d_X_penalty_31 : decode b_X_penalty 31 = .ok (.iconst 0, 1) := by decide +kernel
theorem d_X_penalty_32 : decode b_X_penalty 32 = .ok (.ireturn, 1) := by decide +kernel
theorem d_X_penalty_33 : decode b_X_penalty 33 = .ok (.aload_n 0, 1) := by decide +kernel
theorem d_X_penalty_34 : decode b_X_penalty 34 = .ok (.getfield 33, 3) := by decide +kernel
theorem d_X_penalty_37 : decode b_X_penalty 37 = .ok (.aload_n 0, 1) := by decide +kernel
theorem d_X_penalty_38 : decode b_X_penalty 38 = .ok (.getfield 39, 3) := by decide +kernel
theorem d_X_penalty_41 : decode b_X_penalty 41 = .ok (.lload_n 1, 1) := by decide +kernel
theorem d_X_penalty_42 : decode b_X_penalty 42 = .ok (.lastore, 1) := by decide +kernel
theorem d_X_penalty_43 : decode b_X_penalty 43 = .ok (.aload_n 0, 1) := by decide +kernel
theorem d_X_penalty_44 : decode b_X_penalty 44 = .ok (.getfield 36, 3) := by decide +kernel
theorem d_X_penalty_47 : decode b_X_penalty 47 = .ok (.aload_n 0, 1) := by decide +kernel
theorem d_X_penalty_48 : decode b_X_penalty 48 = .ok (.getfield 39, 3) := by decide +kernel
theorem d_X_penalty_51 : decode b_X_penalty 51 = .ok (.lload_n 3, 1) := by decide +kernel
theorem d_X_penalty_52 : decode b_X_penalty 52 = .ok (.lastore, 1) := by decide +kernel
theorem d_X_penalty_53 : decode b_X_penalty 53 = .ok (.aload_n 0, 1) := by decide +kernel
theorem d_X_penalty_54 : decode b_X_penalty 54 = .ok (.dup, 1) := by decide +kernel
theorem d_X_penalty_55 : decode b_X_penalty 55 = .ok (.getfield 39, 3) := by decide +kernel
theorem d_X_penalty_58 : decode b_X_penalty 58 = .ok (.iconst 1, 1) := by decide +kernel
theorem d_X_penalty_59 : decode b_X_penalty 59 = .ok (.iadd, 1) := by decide +kernel
theorem d_X_penalty_60 : decode b_X_penalty 60 = .ok (.putfield 39, 3) := by decide +kernel
theorem d_X_penalty_63 : decode b_X_penalty 63 = .ok (.iconst 1, 1) := by decide +kernel
theorem d_X_penalty_64 : decode b_X_penalty 64 = .ok (.ireturn, 1) := by decide +kernel
theorem d_X_pay_0 : decode b_X_pay 0 = .ok (.aload_n 0, 1) := by decide +kernel
theorem d_X_pay_1 : decode b_X_pay 1 = .ok (.iload_n 1, 1) := by decide +kernel
theorem d_X_pay_2 : decode b_X_pay 2 = .ok (.invokevirtual 112, 3) := by decide +kernel
theorem d_X_pay_5 : decode b_X_pay 5 = .ok (.ifCond .ne 7, 3) := by decide +kernel
theorem d_X_pay_8 : decode b_X_pay 8 = .ok (.ldc2_w 73, 3) := by decide +kernel
theorem d_X_pay_11 : decode b_X_pay 11 = .ok (.lreturn, 1) := by decide +kernel
theorem d_X_pay_12 : decode b_X_pay 12 = .ok (.aload_n 0, 1) := by decide +kernel
theorem d_X_pay_13 : decode b_X_pay 13 = .ok (.getfield 9, 3) := by decide +kernel
theorem d_X_pay_16 : decode b_X_pay 16 = .ok (.iload_n 1, 1) := by decide +kernel
theorem d_X_pay_17 : decode b_X_pay 17 = .ok (.laload, 1) := by decide +kernel
theorem d_X_pay_18 : decode b_X_pay 18 = .ok (.ldc2_w 139, 3) := by decide +kernel
theorem d_X_pay_21 : decode b_X_pay 21 = .ok (.aload_n 0, 1) := by decide +kernel
theorem d_X_pay_22 : decode b_X_pay 22 = .ok (.getfield 13, 3) := by decide +kernel
theorem d_X_pay_25 : decode b_X_pay 25 = .ok (.iload_n 1, 1) := by decide +kernel
theorem d_X_pay_26 : decode b_X_pay 26 = .ok (.laload, 1) := by decide +kernel
theorem d_X_pay_27 : decode b_X_pay 27 = .ok (.lmul, 1) := by decide +kernel
theorem d_X_pay_28 : decode b_X_pay 28 = .ok (.ldc2_w 141, 3) := by decide +kernel
theorem d_X_pay_31 : decode b_X_pay 31 = .ok (.aload_n 0, 1) := by decide +kernel
theorem d_X_pay_32 : decode b_X_pay 32 = .ok (.getfield 16, 3) := by decide +kernel
theorem d_X_pay_35 : decode b_X_pay 35 = .ok (.iload_n 1, 1) := by decide +kernel
theorem d_X_pay_36 : decode b_X_pay 36 = .ok (.laload, 1) := by decide +kernel
theorem d_X_pay_37 : decode b_X_pay 37 = .ok (.lmul, 1) := by decide +kernel
theorem d_X_pay_38 : decode b_X_pay 38 = .ok (.ladd, 1) := by decide +kernel
theorem d_X_pay_39 : decode b_X_pay 39 = .ok (.lmul, 1) := by decide +kernel
theorem d_X_pay_40 : decode b_X_pay 40 = .ok (.ldc2_w 143, 3) := by decide +kernel
theorem d_X_pay_43 : decode b_X_pay 43 = .ok (.ldiv, 1) := by decide +kernel
theorem d_X_pay_44 : decode b_X_pay 44 = .ok (.lstore_n 2, 1) := by decide +kernel
theorem d_X_pay_45 : decode b_X_pay 45 = .ok (.iconst 0, 1) := by decide +kernel
theorem d_X_pay_46 : decode b_X_pay 46 = .ok (.istore 4, 2) := by decide +kernel
theorem d_X_pay_48 : decode b_X_pay 48 = .ok (.iload 4, 2) := by decide +kernel
theorem d_X_pay_50 : decode b_X_pay 50 = .ok (.aload_n 0, 1) := by decide +kernel
theorem d_X_pay_51 : decode b_X_pay 51 = .ok (.getfield 39, 3) := by decide +kernel
theorem d_X_pay_54 : decode b_X_pay 54 = .ok (.if_icmp .ge 50, 3) := by decide +kernel
theorem d_X_pay_57 : decode b_X_pay 57 = .ok (.aload_n 0, 1) := by decide +kernel
theorem d_X_pay_58 : decode b_X_pay 58 = .ok (.getfield 13, 3) := by decide +kernel
theorem d_X_pay_61 : decode b_X_pay 61 = .ok (.iload_n 1, 1) := by decide +kernel
theorem d_X_pay_62 : decode b_X_pay 62 = .ok (.laload, 1) := by decide +kernel
theorem d_X_pay_63 : decode b_X_pay 63 = .ok (.aload_n 0, 1) := by decide +kernel
theorem d_X_pay_64 : decode b_X_pay 64 = .ok (.getfield 33, 3) := by decide +kernel
theorem d_X_pay_67 : decode b_X_pay 67 = .ok (.iload 4, 2) := by decide +kernel
theorem d_X_pay_69 : decode b_X_pay 69 = .ok (.laload, 1) := by decide +kernel
theorem d_X_pay_70 : decode b_X_pay 70 = .ok (.lcmp, 1) := by decide +kernel
theorem d_X_pay_71 : decode b_X_pay 71 = .ok (.ifCond .ge 27, 3) := by decide +kernel
theorem d_X_pay_74 : decode b_X_pay 74 = .ok (.lconst 0, 1) := by decide +kernel
theorem d_X_pay_75 : decode b_X_pay 75 = .ok (.lload_n 2, 1) := by decide +kernel
theorem d_X_pay_76 : decode b_X_pay 76 = .ok (.aload_n 0, 1) := by decide +kernel
theorem d_X_pay_77 : decode b_X_pay 77 = .ok (.getfield 36, 3) := by decide +kernel
theorem d_X_pay_80 : decode b_X_pay 80 = .ok (.iload 4, 2) := by decide +kernel
theorem d_X_pay_82 : decode b_X_pay 82 = .ok (.laload, 1) := by decide +kernel
theorem d_X_pay_83 : decode b_X_pay 83 = .ok (.aload_n 0, 1) := by decide +kernel
theorem d_X_pay_84 : decode b_X_pay 84 = .ok (.getfield 9, 3) := by decide +kernel
theorem d_X_pay_87 : decode b_X_pay 87 = .ok (.iload_n 1, 1) := by decide +kernel
theorem d_X_pay_88 : decode b_X_pay 88 = .ok (.laload, 1) := by decide +kernel
theorem d_X_pay_89 : decode b_X_pay 89 = .ok (.lmul, 1) := by decide +kernel
theorem d_X_pay_90 : decode b_X_pay 90 = .ok (.invokestatic 145, 3) := by decide +kernel
theorem d_X_pay_93 : decode b_X_pay 93 = .ok (.lsub, 1) := by decide +kernel
theorem d_X_pay_94 : decode b_X_pay 94 = .ok (.invokestatic 148, 3) := by decide +kernel
theorem d_X_pay_97 : decode b_X_pay 97 = .ok (.lstore_n 2, 1) := by decide +kernel
theorem d_X_pay_98 : decode b_X_pay 98 = .ok (.iinc 4 1, 3) := by decide +kernel
theorem d_X_pay_101 : decode b_X_pay 101 = .ok (.goto (-53), 3) := by decide +kernel
theorem d_X_pay_104 : decode b_X_pay 104 = .ok (.lload_n 2, 1) := by decide +kernel
theorem d_X_pay_105 : decode b_X_pay 105 = .ok (.lreturn, 1) := by decide +kernel
theorem d_X_hundredthsRoundedUp_0 : decode b_X_hundredthsRoundedUp 0 = .ok (.lload_n 0, 1) := by decide +kernel
theorem d_X_hundredthsRoundedUp_1 : decode b_X_hundredthsRoundedUp 1 = .ok (.ldc2_w 172, 3) := by decide +kernel
theorem d_X_hundredthsRoundedUp_4 : decode b_X_hundredthsRoundedUp 4 = .ok (.ladd, 1) := by decide +kernel
theorem d_X_hundredthsRoundedUp_5 : decode b_X_hundredthsRoundedUp 5 = .ok (.ldc2_w 174, 3) := by decide +kernel
theorem d_X_hundredthsRoundedUp_8 : decode b_X_hundredthsRoundedUp 8 = .ok (.ldiv, 1) := by decide +kernel
theorem d_X_hundredthsRoundedUp_9 : decode b_X_hundredthsRoundedUp 9 = .ok (.lreturn, 1) := by decide +kernel
theorem d_X_efficiency_0 : decode b_X_efficiency 0 = .ok (.lload_n 3, 1) := by decide +kernel
theorem d_X_efficiency_1 : decode b_X_efficiency 1 = .ok (.lload 5, 2) := by decide +kernel
theorem d_X_efficiency_3 : decode b_X_efficiency 3 = .ok (.invokestatic 63, 3) := by decide +kernel
theorem d_X_efficiency_6 : decode b_X_efficiency 6 = .ok (.lstore 7, 2) := by decide +kernel
theorem d_X_efficiency_8 : decode b_X_efficiency 8 = .ok (.lload_n 1, 1) := by decide +kernel
theorem d_X_efficiency_9 : decode b_X_efficiency 9 = .ok (.lconst 1, 1) := by decide +kernel
theorem d_X_efficiency_10 : decode b_X_efficiency 10 = .ok (.ldc2_w 67, 3) := by decide +kernel
theorem d_X_efficiency_13 : decode b_X_efficiency 13 = .ok (.invokestatic 69, 3) := by decide +kernel
theorem d_X_efficiency_16 : decode b_X_efficiency 16 = .ok (.ifCond .eq 12, 3) := by decide +kernel
theorem d_X_efficiency_19 : decode b_X_efficiency 19 = .ok (.lload 7, 2) := by decide +kernel
theorem d_X_efficiency_21 : decode b_X_efficiency 21 = .ok (.ldc2_w 73, 3) := by decide +kernel
theorem d_X_efficiency_24 : decode b_X_efficiency 24 = .ok (.lcmp, 1) := by decide +kernel
theorem d_X_efficiency_25 : decode b_X_efficiency 25 = .ok (.ifCond .ne 5, 3) := by decide +kernel
theorem d_X_efficiency_28 : decode b_X_efficiency 28 = .ok (.iconst 0, 1) := by decide +kernel
theorem d_X_efficiency_29 : decode b_X_efficiency 29 = .ok (.ireturn, 1) := by decide +kernel
theorem d_X_efficiency_30 : decode b_X_efficiency 30 = .ok (.aload_n 0, 1) := by decide +kernel
theorem d_X_efficiency_31 : decode b_X_efficiency 31 = .ok (.getfield 52, 3) := by decide +kernel
theorem d_X_efficiency_34 : decode b_X_efficiency 34 = .ok (.lload_n 1, 1) := by decide +kernel
theorem d_X_efficiency_35 : decode b_X_efficiency 35 = .ok (.lload 7, 2) := by decide +kernel
theorem d_X_efficiency_37 : decode b_X_efficiency 37 = .ok (.invokevirtual 153, 3) := by decide +kernel
theorem d_X_efficiency_40 : decode b_X_efficiency 40 = .ok (.ireturn, 1) := by decide +kernel
theorem d_X_clearChosen_0 : decode b_X_clearChosen 0 = .ok (.aload_n 0, 1) := by decide +kernel
theorem d_X_clearChosen_1 : decode b_X_clearChosen 1 = .ok (.iconst 0, 1) := by decide +kernel
theorem d_X_clearChosen_2 : decode b_X_clearChosen 2 = .ok (.putfield 46, 3) := by decide +kernel
theorem d_X_clearChosen_5 : decode b_X_clearChosen 5 = .ok (.return_, 1) := by decide +kernel
end
section
theorem d_S_init_0 : decode b_S_init 0 = .ok (.aload_n 0, 1) := by decide +kernel
theorem d_S_init_1 : decode b_S_init 1 = .ok (.invokespecial 3, 3) := by decide +kernel
theorem d_S_init_4 : decode b_S_init 4 = .ok (.aload_n 0, 1) := by decide +kernel
theorem d_S_init_5 : decode b_S_init 5 = .ok (.bipush 20, 2) := by decide +kernel
theorem d_S_init_7 : decode b_S_init 7 = .ok (.newarray .long, 2) := by decide +kernel
theorem d_S_init_9 : decode b_S_init 9 = .ok (.putfield 9, 3) := by decide +kernel
theorem d_S_init_12 : decode b_S_init 12 = .ok (.aload_n 0, 1) := by decide +kernel
theorem d_S_init_13 : decode b_S_init 13 = .ok (.bipush 20, 2) := by decide +kernel
theorem d_S_init_15 : decode b_S_init 15 = .ok (.newarray .long, 2) := by decide +kernel
theorem d_S_init_17 : decode b_S_init 17 = .ok (.putfield 15, 3) := by decide +kernel
theorem d_S_init_20 : decode b_S_init 20 = .ok (.aload_n 0, 1) := by decide +kernel
theorem d_S_init_21 : decode b_S_init 21 = .ok (.iconst 0, 1) := by decide +kernel
theorem d_S_init_22 : decode b_S_init 22 = .ok (.putfield 18, 3) := by decide +kernel
theorem d_S_init_25 : decode b_S_init 25 = .ok (.return_, 1) := by decide +kernel
theorem d_M_init_0 : decode b_M_init 0 = .ok (.aload_n 0, 1) := by decide +kernel
theorem d_M_init_1 : decode b_M_init 1 = .ok (.invokespecial 3, 3) := by decide +kernel
theorem d_M_init_4 : decode b_M_init 4 = .ok (.aload_n 0, 1) := by decide +kernel
theorem d_M_init_5 : decode b_M_init 5 = .ok (.iconst 4, 1) := by decide +kernel
theorem d_M_init_6 : decode b_M_init 6 = .ok (.newarray .int, 2) := by decide +kernel
theorem d_M_init_8 : decode b_M_init 8 = .ok (.putfield 9, 3) := by decide +kernel
theorem d_M_init_11 : decode b_M_init 11 = .ok (.aload_n 0, 1) := by decide +kernel
theorem d_M_init_12 : decode b_M_init 12 = .ok (.iconst 0, 1) := by decide +kernel
theorem d_M_init_13 : decode b_M_init 13 = .ok (.putfield 15, 3) := by decide +kernel
theorem d_M_init_16 : decode b_M_init 16 = .ok (.aload_n 0, 1) := by decide +kernel
theorem d_M_init_17 : decode b_M_init 17 = .ok (.iconst 5, 1) := by decide +kernel
theorem d_M_init_18 : decode b_M_init 18 = .ok (.newarray .long, 2) := by decide +kernel
theorem d_M_init_20 : decode b_M_init 20 = .ok (.putfield 19, 3) := by decide +kernel
theorem d_M_init_23 : decode b_M_init 23 = .ok (.aload_n 0, 1) := by decide +kernel
theorem d_M_init_24 : decode b_M_init 24 = .ok (.iconst 5, 1) := by decide +kernel
theorem d_M_init_25 : decode b_M_init 25 = .ok (.newarray .long, 2) := by decide +kernel
theorem d_M_init_27 : decode b_M_init 27 = .ok (.putfield 23, 3) := by decide +kernel
theorem d_M_init_30 : decode b_M_init 30 = .ok (.aload_n 0, 1) := by decide +kernel
theorem d_M_init_31 : decode b_M_init 31 = .ok (.iconst 4, 1) := by decide +kernel
theorem d_M_init_32 : decode b_M_init 32 = .ok (.newarray .long, 2) := by decide +kernel
theorem d_M_init_34 : decode b_M_init 34 = .ok (.putfield 26, 3) := by decide +kernel
theorem d_M_init_37 : decode b_M_init 37 = .ok (.aload_n 0, 1) := by decide +kernel
theorem d_M_init_38 : decode b_M_init 38 = .ok (.lconst 1, 1) := by decide +kernel
theorem d_M_init_39 : decode b_M_init 39 = .ok (.putfield 29, 3) := by decide +kernel
theorem d_M_init_42 : decode b_M_init 42 = .ok (.aload_n 0, 1) := by decide +kernel
theorem d_M_init_43 : decode b_M_init 43 = .ok (.iconst 4, 1) := by decide +kernel
theorem d_M_init_44 : decode b_M_init 44 = .ok (.newarray .long, 2) := by decide +kernel
theorem d_M_init_46 : decode b_M_init 46 = .ok (.putfield 33, 3) := by decide +kernel
theorem d_M_init_49 : decode b_M_init 49 = .ok (.aload_n 0, 1) := by decide +kernel
theorem d_M_init_50 : decode b_M_init 50 = .ok (.lconst 1, 1) := by decide +kernel
theorem d_M_init_51 : decode b_M_init 51 = .ok (.putfield 36, 3) := by decide +kernel
theorem d_M_init_54 : decode b_M_init 54 = .ok (.aload_n 0, 1) := by decide +kernel
theorem d_M_init_55 : decode b_M_init 55 = .ok (.iconst 0, 1) := by decide +kernel
theorem d_M_init_56 : decode b_M_init 56 = .ok (.putfield 39, 3) := by decide +kernel
theorem d_M_init_59 : decode b_M_init 59 = .ok (.return_, 1) := by decide +kernel
theorem d_S_skimFatAt_0 : decode b_S_skimFatAt 0 = .ok (.aload_n 0, 1) := by decide +kernel
theorem d_S_skimFatAt_1 : decode b_S_skimFatAt 1 = .ok (.getfield 18, 3) := by decide +kernel
theorem d_S_skimFatAt_4 : decode b_S_skimFatAt 4 = .ok (.ifCond .ne 5, 3) := by decide +kernel
theorem d_S_skimFatAt_7 : decode b_S_skimFatAt 7 = .ok (.lconst 0, 1) := by decide +kernel
theorem d_S_skimFatAt_8 : decode b_S_skimFatAt 8 = .ok (.lreturn, 1) := by decide +kernel
theorem d_S_skimFatAt_9 : decode b_S_skimFatAt 9 = .ok (.aload_n 0, 1) := by decide +kernel
theorem d_S_skimFatAt_10 : decode b_S_skimFatAt 10 = .ok (.lload_n 1, 1) := by decide +kernel
theorem d_S_skimFatAt_11 : decode b_S_skimFatAt 11 = .ok (.invokevirtual 22, 3) := by decide +kernel
theorem d_S_skimFatAt_14 : decode b_S_skimFatAt 14 = .ok (.istore_n 3, 1) := by decide +kernel
theorem d_S_skimFatAt_15 : decode b_S_skimFatAt 15 = .ok (.iload_n 3, 1) := by decide +kernel
theorem d_S_skimFatAt_16 : decode b_S_skimFatAt 16 = .ok (.aload_n 0, 1) := by decide +kernel
theorem d_S_skimFatAt_17 : decode b_S_skimFatAt 17 = .ok (.getfield 18, 3) := by decide +kernel
theorem d_S_skimFatAt_20 : decode b_S_skimFatAt 20 = .ok (.if_icmp .ne 15, 3) := by decide +kernel
theorem d_S_skimFatAt_23 : decode b_S_skimFatAt 23 = .ok (.aload_n 0, 1) := by decide +kernel
theorem d_S_skimFatAt_24 : decode b_S_skimFatAt 24 = .ok (.getfield 15, 3) := by decide +kernel
theorem d_S_skimFatAt_27 : decode b_S_skimFatAt 27 = .ok (.aload_n 0, 1) := by decide +kernel
theorem d_S_skimFatAt_28 : decode b_S_skimFatAt 28 = .ok (.getfield 18, 3) := by decide +kernel
theorem d_S_skimFatAt_31 : decode b_S_skimFatAt 31 = .ok (.iconst 1, 1) := by decide +kernel
theorem d_S_skimFatAt_32 : decode b_S_skimFatAt 32 = .ok (.isub, 1) := by decide +kernel
theorem d_S_skimFatAt_33 : decode b_S_skimFatAt 33 = .ok (.laload, 1) := by decide +kernel
theorem d_S_skimFatAt_34 : decode b_S_skimFatAt 34 = .ok (.lreturn, 1) := by decide +kernel
theorem d_S_skimFatAt_35 : decode b_S_skimFatAt 35 = .ok (.iload_n 3, 1) := by decide +kernel
theorem d_S_skimFatAt_36 : decode b_S_skimFatAt 36 = .ok (.ifCond .eq 14, 3) := by decide +kernel
theorem d_S_skimFatAt_39 : decode b_S_skimFatAt 39 = .ok (.aload_n 0, 1) := by decide +kernel
theorem d_S_skimFatAt_40 : decode b_S_skimFatAt 40 = .ok (.getfield 9, 3) := by decide +kernel
theorem d_S_skimFatAt_43 : decode b_S_skimFatAt 43 = .ok (.iload_n 3, 1) := by decide +kernel
theorem d_S_skimFatAt_44 : decode b_S_skimFatAt 44 = .ok (.laload, 1) := by decide +kernel
theorem d_S_skimFatAt_45 : decode b_S_skimFatAt 45 = .ok (.lload_n 1, 1) := by decide +kernel
theorem d_S_skimFatAt_46 : decode b_S_skimFatAt 46 = .ok (.lcmp, 1) := by decide +kernel
theorem d_S_skimFatAt_47 : decode b_S_skimFatAt 47 = .ok (.ifCond .ne 10, 3) := by decide +kernel
theorem d_S_skimFatAt_50 : decode b_S_skimFatAt 50 = .ok (.aload_n 0, 1) := by decide +kernel
theorem d_S_skimFatAt_51 : decode b_S_skimFatAt 51 = .ok (.getfield 15, 3) := by decide +kernel
theorem d_S_skimFatAt_54 : decode b_S_skimFatAt 54 = .ok (.iload_n 3, 1) := by decide +kernel
theorem d_S_skimFatAt_55 : decode b_S_skimFatAt 55 = .ok (.laload, 1) := by decide +kernel
theorem d_S_skimFatAt_56 : decode b_S_skimFatAt 56 = .ok (.lreturn, 1) := by decide +kernel
theorem d_S_skimFatAt_57 : decode b_S_skimFatAt 57 = .ok (.aload_n 0, 1) := by decide +kernel
theorem d_S_skimFatAt_58 : decode b_S_skimFatAt 58 = .ok (.iload_n 3, 1) := by decide +kernel
theorem d_S_skimFatAt_59 : decode b_S_skimFatAt 59 = .ok (.iconst 1, 1) := by decide +kernel
theorem d_S_skimFatAt_60 : decode b_S_skimFatAt 60 = .ok (.isub, 1) := by decide +kernel
theorem d_S_skimFatAt_61 : decode b_S_skimFatAt 61 = .ok (.iload_n 3, 1) := by decide +kernel
theorem d_S_skimFatAt_62 : decode b_S_skimFatAt 62 = .ok (.lload_n 1, 1) := by decide +kernel
theorem d_S_skimFatAt_63 : decode b_S_skimFatAt 63 = .ok (.invokevirtual 26, 3) := by decide +kernel
theorem d_S_skimFatAt_66 : decode b_S_skimFatAt 66 = .ok (.lreturn, 1) := by decide +kernel
theorem d_S_firstNotBefore_0 : decode b_S_firstNotBefore 0 = .ok (.iconst 0, 1) := by decide +kernel
theorem d_S_firstNotBefore_1 : decode b_S_firstNotBefore 1 = .ok (.istore_n 3, 1) := by decide +kernel
theorem d_S_firstNotBefore_2 : decode b_S_firstNotBefore 2 = .ok (.iload_n 3, 1) := by decide +kernel
theorem d_S_firstNotBefore_3 : decode b_S_firstNotBefore 3 = .ok (.aload_n 0, 1) := by decide +kernel
theorem d_S_firstNotBefore_4 : decode b_S_firstNotBefore 4 = .ok (.getfield 18, 3) := by decide +kernel
theorem d_S_firstNotBefore_7 : decode b_S_firstNotBefore 7 = .ok (.if_icmp .ge 22, 3) := by decide +kernel
theorem d_S_firstNotBefore_10 : decode b_S_firstNotBefore 10 = .ok (.aload_n 0, 1) := by decide +kernel
theorem d_S_firstNotBefore_11 : decode b_S_firstNotBefore 11 = .ok (.getfield 9, 3) := by decide +kernel
theorem d_S_firstNotBefore_14 : decode b_S_firstNotBefore 14 = .ok (.iload_n 3, 1) := by decide +kernel
theorem d_S_firstNotBefore_15 : decode b_S_firstNotBefore 15 = .ok (.laload, 1) := by decide +kernel
theorem d_S_firstNotBefore_16 : decode b_S_firstNotBefore 16 = .ok (.lload_n 1, 1) := by decide +kernel
theorem d_S_firstNotBefore_17 : decode b_S_firstNotBefore 17 = .ok (.lcmp, 1) := by decide +kernel
theorem d_S_firstNotBefore_18 : decode b_S_firstNotBefore 18 = .ok (.ifCond .lt 5, 3) := by decide +kernel
theorem d_S_firstNotBefore_21 : decode b_S_firstNotBefore 21 = .ok (.iload_n 3, 1) := by decide +kernel
theorem d_S_firstNotBefore_22 : decode b_S_firstNotBefore 22 = .ok (.ireturn, 1) := by decide +kernel
theorem d_S_firstNotBefore_23 : decode b_S_firstNotBefore 23 = .ok (.iinc 3 1, 3) := by decide +kernel
theorem d_S_firstNotBefore_26 : decode b_S_firstNotBefore 26 = .ok (.goto (-24), 3) := by decide +kernel
theorem d_S_firstNotBefore_29 : decode b_S_firstNotBefore 29 = .ok (.aload_n 0, 1) := by decide +kernel
theorem d_S_firstNotBefore_30 : decode b_S_firstNotBefore 30 = .ok (.getfield 18, 3) := by decide +kernel
theorem d_S_firstNotBefore_33 : decode b_S_firstNotBefore 33 = .ok (.ireturn, 1) := by decide +kernel
theorem d_S_between_0 : decode b_S_between 0 = .ok (.aload_n 0, 1) := by decide +kernel
theorem d_S_between_1 : decode b_S_between 1 = .ok (.getfield 15, 3) := by decide +kernel
theorem d_S_between_4 : decode b_S_between 4 = .ok (.iload_n 2, 1) := by decide +kernel
theorem d_S_between_5 : decode b_S_between 5 = .ok (.laload, 1) := by decide +kernel
theorem d_S_between_6 : decode b_S_between 6 = .ok (.aload_n 0, 1) := by decide +kernel
theorem d_S_between_7 : decode b_S_between 7 = .ok (.getfield 15, 3) := by decide +kernel
theorem d_S_between_10 : decode b_S_between 10 = .ok (.iload_n 1, 1) := by decide +kernel
theorem d_S_between_11 : decode b_S_between 11 = .ok (.laload, 1) := by decide +kernel
theorem d_S_between_12 : decode b_S_between 12 = .ok (.lsub, 1) := by decide +kernel
theorem d_S_between_13 : decode b_S_between 13 = .ok (.lload_n 3, 1) := by decide +kernel
theorem d_S_between_14 : decode b_S_between 14 = .ok (.aload_n 0, 1) := by decide +kernel
theorem d_S_between_15 : decode b_S_between 15 = .ok (.getfield 9, 3) := by decide +kernel
theorem d_S_between_18 : decode b_S_between 18 = .ok (.iload_n 1, 1) := by decide +kernel
theorem d_S_between_19 : decode b_S_between 19 = .ok (.laload, 1) := by decide +kernel
theorem d_S_between_20 : decode b_S_between 20 = .ok (.lsub, 1) := by decide +kernel
theorem d_S_between_21 : decode b_S_between 21 = .ok (.lmul, 1) := by decide +kernel
theorem d_S_between_22 : decode b_S_between 22 = .ok (.lstore 5, 2) := by decide +kernel
theorem d_S_between_24 : decode b_S_between 24 = .ok (.aload_n 0, 1) := by decide +kernel
theorem d_S_between_25 : decode b_S_between 25 = .ok (.getfield 15, 3) := by decide +kernel
theorem d_S_between_28 : decode b_S_between 28 = .ok (.iload_n 1, 1) := by decide +kernel
theorem d_S_between_29 : decode b_S_between 29 = .ok (.laload, 1) := by decide +kernel
theorem d_S_between_30 : decode b_S_between 30 = .ok (.lload 5, 2) := by decide +kernel
theorem d_S_between_32 : decode b_S_between 32 = .ok (.aload_n 0, 1) := by decide +kernel
theorem d_S_between_33 : decode b_S_between 33 = .ok (.getfield 9, 3) := by decide +kernel
theorem d_S_between_36 : decode b_S_between 36 = .ok (.iload_n 2, 1) := by decide +kernel
theorem d_S_between_37 : decode b_S_between 37 = .ok (.laload, 1) := by decide +kernel
theorem d_S_between_38 : decode b_S_between 38 = .ok (.aload_n 0, 1) := by decide +kernel
theorem d_S_between_39 : decode b_S_between 39 = .ok (.getfield 9, 3) := by decide +kernel
theorem d_S_between_42 : decode b_S_between 42 = .ok (.iload_n 1, 1) := by decide +kernel
theorem d_S_between_43 : decode b_S_between 43 = .ok (.laload, 1) := by decide +kernel
theorem d_S_between_44 : decode b_S_between 44 = .ok (.lsub, 1) := by decide +kernel
theorem d_S_between_45 : decode b_S_between 45 = .ok (.invokestatic 30, 3) := by decide +kernel
theorem d_S_between_48 : decode b_S_between 48 = .ok (.ladd, 1) := by decide +kernel
theorem d_S_between_49 : decode b_S_between 49 = .ok (.lreturn, 1) := by decide +kernel
theorem d_M_forget_0 : decode b_M_forget 0 = .ok (.aload_n 0, 1) := by decide +kernel
theorem d_M_forget_1 : decode b_M_forget 1 = .ok (.iconst 0, 1) := by decide +kernel
theorem d_M_forget_2 : decode b_M_forget 2 = .ok (.putfield 15, 3) := by decide +kernel
theorem d_M_forget_5 : decode b_M_forget 5 = .ok (.aload_n 0, 1) := by decide +kernel
theorem d_M_forget_6 : decode b_M_forget 6 = .ok (.iconst 0, 1) := by decide +kernel
theorem d_M_forget_7 : decode b_M_forget 7 = .ok (.putfield 39, 3) := by decide +kernel
theorem d_M_forget_10 : decode b_M_forget 10 = .ok (.return_, 1) := by decide +kernel
theorem d_M_add_0 : decode b_M_add 0 = .ok (.aload_n 0, 1) := by decide +kernel
theorem d_M_add_1 : decode b_M_add 1 = .ok (.getfield 15, 3) := by decide +kernel
theorem d_M_add_4 : decode b_M_add 4 = .ok (.iconst 4, 1) := by decide +kernel
theorem d_M_add_5 : decode b_M_add 5 = .ok (.if_icmp .lt 4, 3) := by decide +kernel
theorem d_M_add_8 : decode b_M_add 8 = .ok (.return_, 1) := by decide +kernel
theorem d_M_add_9 : decode b_M_add 9 = .ok (.aload_n 0, 1) := by decide +kernel
theorem d_M_add_10 : decode b_M_add 10 = .ok (.getfield 9, 3) := by decide +kernel
theorem d_M_add_13 : decode b_M_add 13 = .ok (.aload_n 0, 1) := by decide +kernel
theorem d_M_add_14 : decode b_M_add 14 = .ok (.getfield 15, 3) := by decide +kernel
theorem d_M_add_17 : decode b_M_add 17 = .ok (.iload_n 1, 1) := by decide +kernel
theorem d_M_add_18 : decode b_M_add 18 = .ok (.iastore, 1) := by decide +kernel
theorem d_M_add_19 : decode b_M_add 19 = .ok (.aload_n 0, 1) := by decide +kernel
theorem d_M_add_20 : decode b_M_add 20 = .ok (.getfield 19, 3) := by decide +kernel
theorem d_M_add_23 : decode b_M_add 23 = .ok (.aload_n 0, 1) := by decide +kernel
theorem d_M_add_24 : decode b_M_add 24 = .ok (.getfield 15, 3) := by decide +kernel
theorem d_M_add_27 : decode b_M_add 27 = .ok (.lload_n 2, 1) := by decide +kernel
theorem d_M_add_28 : decode b_M_add 28 = .ok (.lastore, 1) := by decide +kernel
theorem d_M_add_29 : decode b_M_add 29 = .ok (.aload_n 0, 1) := by decide +kernel
theorem d_M_add_30 : decode b_M_add 30 = .ok (.getfield 23, 3) := by decide +kernel
theorem d_M_add_33 : decode b_M_add 33 = .ok (.aload_n 0, 1) := by decide +kernel
theorem d_M_add_34 : decode b_M_add 34 = .ok (.getfield 15, 3) := by decide +kernel
theorem d_M_add_37 : decode b_M_add 37 = .ok (.lload 4, 2) := by decide +kernel
theorem d_M_add_39 : decode b_M_add 39 = .ok (.lastore, 1) := by decide +kernel
theorem d_M_add_40 : decode b_M_add 40 = .ok (.aload_n 0, 1) := by decide +kernel
theorem d_M_add_41 : decode b_M_add 41 = .ok (.dup, 1) := by decide +kernel
theorem d_M_add_42 : decode b_M_add 42 = .ok (.getfield 15, 3) := by decide +kernel
theorem d_M_add_45 : decode b_M_add 45 = .ok (.iconst 1, 1) := by decide +kernel
theorem d_M_add_46 : decode b_M_add 46 = .ok (.iadd, 1) := by decide +kernel
theorem d_M_add_47 : decode b_M_add 47 = .ok (.putfield 15, 3) := by decide +kernel
theorem d_M_add_50 : decode b_M_add 50 = .ok (.return_, 1) := by decide +kernel
theorem d_M_search_0 : decode b_M_search 0 = .ok (.aload_n 0, 1) := by decide +kernel
theorem d_M_search_1 : decode b_M_search 1 = .ok (.getfield 19, 3) := by decide +kernel
theorem d_M_search_4 : decode b_M_search 4 = .ok (.iconst 4, 1) := by decide +kernel
theorem d_M_search_5 : decode b_M_search 5 = .ok (.lload_n 1, 1) := by decide +kernel
theorem d_M_search_6 : decode b_M_search 6 = .ok (.lastore, 1) := by decide +kernel
theorem d_M_search_7 : decode b_M_search 7 = .ok (.aload_n 0, 1) := by decide +kernel
theorem d_M_search_8 : decode b_M_search 8 = .ok (.getfield 23, 3) := by decide +kernel
theorem d_M_search_11 : decode b_M_search 11 = .ok (.iconst 4, 1) := by decide +kernel
theorem d_M_search_12 : decode b_M_search 12 = .ok (.lload_n 3, 1) := by decide +kernel
theorem d_M_search_13 : decode b_M_search 13 = .ok (.lastore, 1) := by decide +kernel
theorem d_M_search_14 : decode b_M_search 14 = .ok (.iconst 0, 1) := by decide +kernel
theorem d_M_search_15 : decode b_M_search 15 = .ok (.istore 5, 2) := by decide +kernel
theorem d_M_search_17 : decode b_M_search 17 = .ok (.iload 5, 2) := by decide +kernel
theorem d_M_search_19 : decode b_M_search 19 = .ok (.aload_n 0, 1) := by decide +kernel
theorem d_M_search_20 : decode b_M_search 20 = .ok (.getfield 15, 3) := by decide +kernel
theorem d_M_search_23 : decode b_M_search 23 = .ok (.if_icmp .ge 75, 3) := by decide +kernel
theorem d_M_search_26 : decode b_M_search 26 = .ok (.aload_n 0, 1) := by decide +kernel
theorem d_M_search_27 : decode b_M_search 27 = .ok (.iload 5, 2) := by decide +kernel
theorem d_M_search_29 : decode b_M_search 29 = .ok (.invokevirtual 43, 3) := by decide +kernel
theorem d_M_search_32 : decode b_M_search 32 = .ok (.iload 5, 2) := by decide +kernel
theorem d_M_search_34 : decode b_M_search 34 = .ok (.iconst 1, 1) := by decide +kernel
theorem d_M_search_35 : decode b_M_search 35 = .ok (.iadd, 1) := by decide +kernel
theorem d_M_search_36 : decode b_M_search 36 = .ok (.istore 6, 2) := by decide +kernel
theorem d_M_search_38 : decode b_M_search 38 = .ok (.iload 6, 2) := by decide +kernel
theorem d_M_search_40 : decode b_M_search 40 = .ok (.aload_n 0, 1) := by decide +kernel
theorem d_M_search_41 : decode b_M_search 41 = .ok (.getfield 15, 3) := by decide +kernel
theorem d_M_search_44 : decode b_M_search 44 = .ok (.if_icmp .ge 48, 3) := by decide +kernel
theorem d_M_search_47 : decode b_M_search 47 = .ok (.aload_n 0, 1) := by decide +kernel
theorem d_M_search_48 : decode b_M_search 48 = .ok (.iload 5, 2) := by decide +kernel
theorem d_M_search_50 : decode b_M_search 50 = .ok (.iload 6, 2) := by decide +kernel
theorem d_M_search_52 : decode b_M_search 52 = .ok (.invokevirtual 47, 3) := by decide +kernel
theorem d_M_search_55 : decode b_M_search 55 = .ok (.iload 6, 2) := by decide +kernel
theorem d_M_search_57 : decode b_M_search 57 = .ok (.iconst 1, 1) := by decide +kernel
theorem d_M_search_58 : decode b_M_search 58 = .ok (.iadd, 1) := by decide +kernel
theorem d_M_search_59 : decode b_M_search 59 = .ok (.istore 7, 2) := by decide +kernel
theorem d_M_search_61 : decode b_M_search 61 = .ok (.iload 7, 2) := by decide +kernel
theorem d_M_search_63 : decode b_M_search 63 = .ok (.aload_n 0, 1) := by decide +kernel
theorem d_M_search_64 : decode b_M_search 64 = .ok (.getfield 15, 3) := by decide +kernel
theorem d_M_search_67 : decode b_M_search 67 = .ok (.if_icmp .ge 19, 3) := by decide +kernel
theorem d_M_search_70 : decode b_M_search 70 = .ok (.aload_n 0, 1) := by decide +kernel
theorem d_M_search_71 : decode b_M_search 71 = .ok (.iload 5, 2) := by decide +kernel
theorem d_M_search_73 : decode b_M_search 73 = .ok (.iload 6, 2) := by decide +kernel
theorem d_M_search_75 : decode b_M_search 75 = .ok (.iload 7, 2) := by decide +kernel
theorem d_M_search_77 : decode b_M_search 77 = .ok (.invokevirtual 51, 3) := by decide +kernel
theorem d_M_search_80 : decode b_M_search 80 = .ok (.iinc 7 1, 3) := by decide +kernel
theorem d_M_search_83 : decode b_M_search 83 = .ok (.goto (-22), 3) := by decide +kernel
theorem d_M_search_86 : decode b_M_search 86 = .ok (.iinc 6 1, 3) := by decide +kernel
theorem d_M_search_89 : decode b_M_search 89 = .ok (.goto (-51), 3) := by decide +kernel
theorem d_M_search_92 : decode b_M_search 92 = .ok (.iinc 5 1, 3) := by decide +kernel
theorem d_M_search_95 : decode b_M_search 95 = .ok (.goto (-78), 3) := by decide +kernel
theorem d_M_search_98 : decode b_M_search 98 = .ok (.aload_n 0, 1) := by decide +kernel
theorem d_M_search_99 : decode b_M_search 99 = .ok (.getfield 39, 3) := by decide +kernel
theorem d_M_search_102 : decode b_M_search 102 = .ok (.ireturn, 1) := by decide +kernel
theorem d_M_tryOne_0 : decode b_M_tryOne 0 = .ok (.aload_n 0, 1) := by decide +kernel
theorem d_M_tryOne_1 : decode b_M_tryOne 1 = .ok (.getfield 19, 3) := by decide +kernel
theorem d_M_tryOne_4 : decode b_M_tryOne 4 = .ok (.iload_n 1, 1) := by decide +kernel
theorem d_M_tryOne_5 : decode b_M_tryOne 5 = .ok (.laload, 1) := by decide +kernel
theorem d_M_tryOne_6 : decode b_M_tryOne 6 = .ok (.aload_n 0, 1) := by decide +kernel
theorem d_M_tryOne_7 : decode b_M_tryOne 7 = .ok (.getfield 19, 3) := by decide +kernel
theorem d_M_tryOne_10 : decode b_M_tryOne 10 = .ok (.iconst 4, 1) := by decide +kernel
theorem d_M_tryOne_11 : decode b_M_tryOne 11 = .ok (.laload, 1) := by decide +kernel
theorem d_M_tryOne_12 : decode b_M_tryOne 12 = .ok (.lcmp, 1) := by decide +kernel
theorem d_M_tryOne_13 : decode b_M_tryOne 13 = .ok (.ifCond .ne 35, 3) := by decide +kernel
theorem d_M_tryOne_16 : decode b_M_tryOne 16 = .ok (.aload_n 0, 1) := by decide +kernel
theorem d_M_tryOne_17 : decode b_M_tryOne 17 = .ok (.getfield 23, 3) := by decide +kernel
theorem d_M_tryOne_20 : decode b_M_tryOne 20 = .ok (.iload_n 1, 1) := by decide +kernel
theorem d_M_tryOne_21 : decode b_M_tryOne 21 = .ok (.laload, 1) := by decide +kernel
theorem d_M_tryOne_22 : decode b_M_tryOne 22 = .ok (.aload_n 0, 1) := by decide +kernel
theorem d_M_tryOne_23 : decode b_M_tryOne 23 = .ok (.getfield 23, 3) := by decide +kernel
theorem d_M_tryOne_26 : decode b_M_tryOne 26 = .ok (.iconst 4, 1) := by decide +kernel
theorem d_M_tryOne_27 : decode b_M_tryOne 27 = .ok (.laload, 1) := by decide +kernel
theorem d_M_tryOne_28 : decode b_M_tryOne 28 = .ok (.lcmp, 1) := by decide +kernel
theorem d_M_tryOne_29 : decode b_M_tryOne 29 = .ok (.ifCond .ne 19, 3) := by decide +kernel
theorem d_M_tryOne_32 : decode b_M_tryOne 32 = .ok (.aload_n 0, 1) := by decide +kernel
theorem d_M_tryOne_33 : decode b_M_tryOne 33 = .ok (.lconst 1, 1) := by decide +kernel
theorem d_M_tryOne_34 : decode b_M_tryOne 34 = .ok (.invokevirtual 55, 3) := by decide +kernel
theorem d_M_tryOne_37 : decode b_M_tryOne 37 = .ok (.aload_n 0, 1) := by decide +kernel
theorem d_M_tryOne_38 : decode b_M_tryOne 38 = .ok (.getfield 26, 3) := by decide +kernel
theorem d_M_tryOne_41 : decode b_M_tryOne 41 = .ok (.iload_n 1, 1) := by decide +kernel
theorem d_M_tryOne_42 : decode b_M_tryOne 42 = .ok (.lconst 1, 1) := by decide +kernel
theorem d_M_tryOne_43 : decode b_M_tryOne 43 = .ok (.lastore, 1) := by decide +kernel
theorem d_M_tryOne_44 : decode b_M_tryOne 44 = .ok (.aload_n 0, 1) := by decide +kernel
theorem d_M_tryOne_45 : decode b_M_tryOne 45 = .ok (.invokevirtual 59, 3) := by decide +kernel
theorem d_M_tryOne_48 : decode b_M_tryOne 48 = .ok (.return_, 1) := by decide +kernel
theorem d_M_startTrial_0 : decode b_M_startTrial 0 = .ok (.aload_n 0, 1) := by decide +kernel
theorem d_M_startTrial_1 : decode b_M_startTrial 1 = .ok (.lload_n 1, 1) := by decide +kernel
theorem d_M_startTrial_2 : decode b_M_startTrial 2 = .ok (.putfield 29, 3) := by decide +kernel
theorem d_M_startTrial_5 : decode b_M_startTrial 5 = .ok (.iconst 0, 1) := by decide +kernel
theorem d_M_startTrial_6 : decode b_M_startTrial 6 = .ok (.istore_n 3, 1) := by decide +kernel
theorem d_M_startTrial_7 : decode b_M_startTrial 7 = .ok (.iload_n 3, 1) := by decide +kernel
theorem d_M_startTrial_8 : decode b_M_startTrial 8 = .ok (.iconst 4, 1) := by decide +kernel
theorem d_M_startTrial_9 : decode b_M_startTrial 9 = .ok (.if_icmp .ge 16, 3) := by decide +kernel
theorem d_M_startTrial_12 : decode b_M_startTrial 12 = .ok (.aload_n 0, 1) := by decide +kernel
theorem d_M_startTrial_13 : decode b_M_startTrial 13 = .ok (.getfield 26, 3) := by decide +kernel
theorem d_M_startTrial_16 : decode b_M_startTrial 16 = .ok (.iload_n 3, 1) := by decide +kernel
theorem d_M_startTrial_17 : decode b_M_startTrial 17 = .ok (.lconst 0, 1) := by decide +kernel
theorem d_M_startTrial_18 : decode b_M_startTrial 18 = .ok (.lastore, 1) := by decide +kernel
theorem d_M_startTrial_19 : decode b_M_startTrial 19 = .ok (.iinc 3 1, 3) := by decide +kernel
theorem d_M_startTrial_22 : decode b_M_startTrial 22 = .ok (.goto (-15), 3) := by decide +kernel
theorem d_M_startTrial_25 : decode b_M_startTrial 25 = .ok (.return_, 1) := by decide +kernel
theorem d_M_keepIfBetter_0 : decode b_M_keepIfBetter 0 = .ok (.aload_n 0, 1) := by decide +kernel
theorem d_M_keepIfBetter_1 : decode b_M_keepIfBetter 1 = .ok (.invokevirtual 71, 3) := by decide +kernel
theorem d_M_keepIfBetter_4 : decode b_M_keepIfBetter 4 = .ok (.ifCond .eq 17, 3) := by decide +kernel
theorem d_M_keepIfBetter_7 : decode b_M_keepIfBetter 7 = .ok (.aload_n 0, 1) := by decide +kernel
theorem d_M_keepIfBetter_8 : decode b_M_keepIfBetter 8 = .ok (.getfield 39, 3) := by decide +kernel
theorem d_M_keepIfBetter_11 : decode b_M_keepIfBetter 11 = .ok (.ifCond .eq 11, 3) := by decide +kernel
theorem d_M_keepIfBetter_14 : decode b_M_keepIfBetter 14 = .ok (.aload_n 0, 1) := by decide +kernel
theorem d_M_keepIfBetter_15 : decode b_M_keepIfBetter 15 = .ok (.invokevirtual 75, 3) := by decide +kernel
theorem d_M_keepIfBetter_18 : decode b_M_keepIfBetter 18 = .ok (.ifCond .ne 4, 3) := by decide +kernel
theorem d_M_keepIfBetter_21 : decode b_M_keepIfBetter 21 = .ok (.return_, 1) := by decide +kernel
theorem d_M_keepIfBetter_22 : decode b_M_keepIfBetter 22 = .ok (.iconst 0, 1) := by decide +kernel
theorem d_M_keepIfBetter_23 : decode b_M_keepIfBetter 23 = .ok (.istore_n 1, 1) := by decide +kernel
theorem d_M_keepIfBetter_24 : decode b_M_keepIfBetter 24 = .ok (.iload_n 1, 1) := by decide +kernel
theorem d_M_keepIfBetter_25 : decode b_M_keepIfBetter 25 = .ok (.iconst 4, 1) := by decide +kernel
theorem d_M_keepIfBetter_26 : decode b_M_keepIfBetter 26 = .ok (.if_icmp .ge 21, 3) := by decide +kernel
theorem d_M_keepIfBetter_29 : decode b_M_keepIfBetter 29 = .ok (.aload_n 0, 1) := by decide +kernel
theorem d_M_keepIfBetter_30 : decode b_M_keepIfBetter 30 = .ok (.getfield 33, 3) := by decide +kernel
theorem d_M_keepIfBetter_33 : decode b_M_keepIfBetter 33 = .ok (.iload_n 1, 1) := by decide +kernel
theorem d_M_keepIfBetter_34 : decode b_M_keepIfBetter 34 = .ok (.aload_n 0, 1) := by decide +kernel
theorem d_M_keepIfBetter_35 : decode b_M_keepIfBetter 35 = .ok (.getfield 26, 3) := by decide +kernel
theorem d_M_keepIfBetter_38 : decode b_M_keepIfBetter 38 = .ok (.iload_n 1, 1) := by decide +kernel
theorem d_M_keepIfBetter_39 : decode b_M_keepIfBetter 39 = .ok (.laload, 1) := by decide +kernel
theorem d_M_keepIfBetter_40 : decode b_M_keepIfBetter 40 = .ok (.lastore, 1) := by decide +kernel
theorem d_M_keepIfBetter_41 : decode b_M_keepIfBetter 41 = .ok (.iinc 1 1, 3) := by decide +kernel
theorem d_M_keepIfBetter_44 : decode b_M_keepIfBetter 44 = .ok (.goto (-20), 3) := by decide +kernel
theorem d_M_keepIfBetter_47 : decode b_M_keepIfBetter 47 = .ok (.aload_n 0, 1) := by decide +kernel
theorem d_M_keepIfBetter_48 : decode b_M_keepIfBetter 48 = .ok (.aload_n 0, 1) := by decide +kernel
theorem d_M_keepIfBetter_49 : decode b_M_keepIfBetter 49 = .ok (.getfield 29, 3) := by decide +kernel
theorem d_M_keepIfBetter_52 : decode b_M_keepIfBetter 52 = .ok (.putfield 36, 3) := by decide +kernel
theorem d_M_keepIfBetter_55 : decode b_M_keepIfBetter 55 = .ok (.aload_n 0, 1) := by decide +kernel
theorem d_M_keepIfBetter_56 : decode b_M_keepIfBetter 56 = .ok (.iconst 1, 1) := by decide +kernel
theorem d_M_keepIfBetter_57 : decode b_M_keepIfBetter 57 = .ok (.putfield 39, 3) := by decide +kernel
theorem d_M_keepIfBetter_60 : decode b_M_keepIfBetter 60 = .ok (.return_, 1) := by decide +kernel
theorem d_M_isTrialPossible_0 : decode b_M_isTrialPossible 0 = .ok (.iconst 0, 1) := by decide +kernel
theorem d_M_isTrialPossible_1 : decode b_M_isTrialPossible 1 = .ok (.istore_n 1, 1) := by decide +kernel
theorem d_M_isTrialPossible_2 : decode b_M_isTrialPossible 2 = .ok (.iload_n 1, 1) := by decide +kernel
theorem d_M_isTrialPossible_3 : decode b_M_isTrialPossible 3 = .ok (.aload_n 0, 1) := by decide +kernel
theorem d_M_isTrialPossible_4 : decode b_M_isTrialPossible 4 = .ok (.getfield 15, 3) := by decide +kernel
theorem d_M_isTrialPossible_7 : decode b_M_isTrialPossible 7 = .ok (.if_icmp .ge 22, 3) := by decide +kernel
theorem d_M_isTrialPossible_10 : decode b_M_isTrialPossible 10 = .ok (.aload_n 0, 1) := by decide +kernel
theorem d_M_isTrialPossible_11 : decode b_M_isTrialPossible 11 = .ok (.getfield 26, 3) := by decide +kernel
theorem d_M_isTrialPossible_14 : decode b_M_isTrialPossible 14 = .ok (.iload_n 1, 1) := by decide +kernel
theorem d_M_isTrialPossible_15 : decode b_M_isTrialPossible 15 = .ok (.laload, 1) := by decide +kernel
theorem d_M_isTrialPossible_16 : decode b_M_isTrialPossible 16 = .ok (.lconst 0, 1) := by decide +kernel
theorem d_M_isTrialPossible_17 : decode b_M_isTrialPossible 17 = .ok (.lcmp, 1) := by decide +kernel
theorem d_M_isTrialPossible_18 : decode b_M_isTrialPossible 18 = .ok (.ifCond .ge 5, 3) := by decide +kernel
theorem d_M_isTrialPossible_21 : decode b_M_isTrialPossible 21 = .ok (.iconst 0, 1) := by decide +kernel
theorem d_M_isTrialPossible_22 : decode b_M_isTrialPossible 22 = .ok (.ireturn, 1) := by decide +kernel
theorem d_M_isTrialPossible_23 : decode b_M_isTrialPossible 23 = .ok (.iinc 1 1, 3) := by decide +kernel
theorem d_M_isTrialPossible_26 : decode b_M_isTrialPossible 26 = .ok (.goto (-24), 3) := by decide +kernel
theorem d_M_isTrialPossible_29 : decode b_M_isTrialPossible 29 = .ok (.iconst 1, 1) := by decide +kernel
theorem d_M_isTrialPossible_30 : decode b_M_isTrialPossible 30 = .ok (.ireturn, 1) := by decide +kernel
theorem d_M_isTrialBetter_0 : decode b_M_isTrialBetter 0 = .ok (.iconst 0, 1) := by decide +kernel
theorem d_M_isTrialBetter_1 : decode b_M_isTrialBetter 1 = .ok (.istore_n 1, 1) := by decide +kernel
theorem d_M_isTrialBetter_2 : decode b_M_isTrialBetter 2 = .ok (.iload_n 1, 1) := by decide +kernel
theorem d_M_isTrialBetter_3 : decode b_M_isTrialBetter 3 = .ok (.aload_n 0, 1) := by decide +kernel
theorem d_M_isTrialBetter_4 : decode b_M_isTrialBetter 4 = .ok (.getfield 15, 3) := by decide +kernel
theorem d_M_isTrialBetter_7 : decode b_M_isTrialBetter 7 = .ok (.if_icmp .ge 54, 3) := by decide +kernel
theorem d_M_isTrialBetter_10 : decode b_M_isTrialBetter 10 = .ok (.aload_n 0, 1) := by decide +kernel
theorem d_M_isTrialBetter_11 : decode b_M_isTrialBetter 11 = .ok (.getfield 26, 3) := by decide +kernel
theorem d_M_isTrialBetter_14 : decode b_M_isTrialBetter 14 = .ok (.iload_n 1, 1) := by decide +kernel
theorem d_M_isTrialBetter_15 : decode b_M_isTrialBetter 15 = .ok (.laload, 1) := by decide +kernel
theorem d_M_isTrialBetter_16 : decode b_M_isTrialBetter 16 = .ok (.aload_n 0, 1) := by decide +kernel
theorem d_M_isTrialBetter_17 : decode b_M_isTrialBetter 17 = .ok (.getfield 36, 3) := by decide +kernel
theorem d_M_isTrialBetter_20 : decode b_M_isTrialBetter 20 = .ok (.lmul, 1) := by decide +kernel
theorem d_M_isTrialBetter_21 : decode b_M_isTrialBetter 21 = .ok (.lstore_n 2, 1) := by decide +kernel
theorem d_M_isTrialBetter_22 : decode b_M_isTrialBetter 22 = .ok (.aload_n 0, 1) := by decide +kernel
theorem d_M_isTrialBetter_23 : decode b_M_isTrialBetter 23 = .ok (.getfield 33, 3) := by decide +kernel
theorem d_M_isTrialBetter_26 : decode b_M_isTrialBetter 26 = .ok (.iload_n 1, 1) := by decide +kernel
theorem d_M_isTrialBetter_27 : decode b_M_isTrialBetter 27 = .ok (.laload, 1) := by decide +kernel
theorem d_M_isTrialBetter_28 : decode b_M_isTrialBetter 28 = .ok (.aload_n 0, 1) := by decide +kernel
theorem d_M_isTrialBetter_29 : decode b_M_isTrialBetter 29 = .ok (.getfield 29, 3) := by decide +kernel
theorem d_M_isTrialBetter_32 : decode b_M_isTrialBetter 32 = .ok (.lmul, 1) := by decide +kernel
theorem d_M_isTrialBetter_33 : decode b_M_isTrialBetter 33 = .ok (.lstore 4, 2) := by decide +kernel
theorem d_M_isTrialBetter_35 : decode b_M_isTrialBetter 35 = .ok (.lload_n 2, 1) := by decide +kernel
theorem d_M_isTrialBetter_36 : decode b_M_isTrialBetter 36 = .ok (.lload 4, 2) := by decide +kernel
theorem d_M_isTrialBetter_38 : decode b_M_isTrialBetter 38 = .ok (.lcmp, 1) := by decide +kernel
theorem d_M_isTrialBetter_39 : decode b_M_isTrialBetter 39 = .ok (.ifCond .eq 16, 3) := by decide +kernel
theorem d_M_isTrialBetter_42 : decode b_M_isTrialBetter 42 = .ok (.lload_n 2, 1) := by decide +kernel
theorem d_M_isTrialBetter_43 : decode b_M_isTrialBetter 43 = .ok (.lload 4, 2) := by decide +kernel
theorem d_M_isTrialBetter_45 : decode b_M_isTrialBetter 45 = .ok (.lcmp, 1) := by decide +kernel
theorem d_M_isTrialBetter_46 : decode b_M_isTrialBetter 46 = .ok (.ifCond .le 7, 3) := by decide +kernel
theorem d_M_isTrialBetter_49 : decode b_M_isTrialBetter 49 = .ok (.iconst 1, 1) := by decide +kernel
theorem d_M_isTrialBetter_50 : decode b_M_isTrialBetter 50 = .ok (.goto 4, 3) := by decide +kernel
theorem d_M_isTrialBetter_53 : decode b_M_isTrialBetter 53 = .ok (.iconst 0, 1) := by decide +kernel
theorem d_M_isTrialBetter_54 : decode b_M_isTrialBetter 54 = .ok (.ireturn, 1) := by decide +kernel
theorem d_M_isTrialBetter_55 : decode b_M_isTrialBetter 55 = .ok (.iinc 1 1, 3) := by decide +kernel
theorem d_M_isTrialBetter_58 : decode b_M_isTrialBetter 58 = .ok (.goto (-56), 3) := by decide +kernel
theorem d_M_isTrialBetter_61 : decode b_M_isTrialBetter 61 = .ok (.iconst 0, 1) := by decide +kernel
theorem d_M_isTrialBetter_62 : decode b_M_isTrialBetter 62 = .ok (.ireturn, 1) := by decide +kernel
theorem d_M_tryTwo_0 : decode b_M_tryTwo 0 = .ok (.aload_n 0, 1) := by decide +kernel
theorem d_M_tryTwo_1 : decode b_M_tryTwo 1 = .ok (.iload_n 1, 1) := by decide +kernel
theorem d_M_tryTwo_2 : decode b_M_tryTwo 2 = .ok (.iload_n 2, 1) := by decide +kernel
theorem d_M_tryTwo_3 : decode b_M_tryTwo 3 = .ok (.iload_n 2, 1) := by decide +kernel
theorem d_M_tryTwo_4 : decode b_M_tryTwo 4 = .ok (.invokevirtual 62, 3) := by decide +kernel
theorem d_M_tryTwo_7 : decode b_M_tryTwo 7 = .ok (.lstore_n 3, 1) := by decide +kernel
theorem d_M_tryTwo_8 : decode b_M_tryTwo 8 = .ok (.lload_n 3, 1) := by decide +kernel
theorem d_M_tryTwo_9 : decode b_M_tryTwo 9 = .ok (.lconst 0, 1) := by decide +kernel
theorem d_M_tryTwo_10 : decode b_M_tryTwo 10 = .ok (.lcmp, 1) := by decide +kernel
theorem d_M_tryTwo_11 : decode b_M_tryTwo 11 = .ok (.ifCond .eq 15, 3) := by decide +kernel
theorem d_M_tryTwo_14 : decode b_M_tryTwo 14 = .ok (.aload_n 0, 1) := by decide +kernel
theorem d_M_tryTwo_15 : decode b_M_tryTwo 15 = .ok (.iload_n 1, 1) := by decide +kernel
theorem d_M_tryTwo_16 : decode b_M_tryTwo 16 = .ok (.iload_n 2, 1) := by decide +kernel
theorem d_M_tryTwo_17 : decode b_M_tryTwo 17 = .ok (.iconst 4, 1) := by decide +kernel
theorem d_M_tryTwo_18 : decode b_M_tryTwo 18 = .ok (.invokevirtual 66, 3) := by decide +kernel
theorem d_M_tryTwo_21 : decode b_M_tryTwo 21 = .ok (.lconst 0, 1) := by decide +kernel
theorem d_M_tryTwo_22 : decode b_M_tryTwo 22 = .ok (.lcmp, 1) := by decide +kernel
theorem d_M_tryTwo_23 : decode b_M_tryTwo 23 = .ok (.ifCond .eq 4, 3) := by decide +kernel
theorem d_M_tryTwo_26 : decode b_M_tryTwo 26 = .ok (.return_, 1) := by decide +kernel
theorem d_M_tryTwo_27 : decode b_M_tryTwo 27 = .ok (.aload_n 0, 1) := by decide +kernel
theorem d_M_tryTwo_28 : decode b_M_tryTwo 28 = .ok (.lload_n 3, 1) := by decide +kernel
theorem d_M_tryTwo_29 : decode b_M_tryTwo 29 = .ok (.invokevirtual 55, 3) := by decide +kernel
theorem d_M_tryTwo_32 : decode b_M_tryTwo 32 = .ok (.aload_n 0, 1) := by decide +kernel
theorem d_M_tryTwo_33 : decode b_M_tryTwo 33 = .ok (.getfield 26, 3) := by decide +kernel
theorem d_M_tryTwo_36 : decode b_M_tryTwo 36 = .ok (.iload_n 2, 1) := by decide +kernel
theorem d_M_tryTwo_37 : decode b_M_tryTwo 37 = .ok (.aload_n 0, 1) := by decide +kernel
theorem d_M_tryTwo_38 : decode b_M_tryTwo 38 = .ok (.iload_n 1, 1) := by decide +kernel
theorem d_M_tryTwo_39 : decode b_M_tryTwo 39 = .ok (.iload_n 2, 1) := by decide +kernel
theorem d_M_tryTwo_40 : decode b_M_tryTwo 40 = .ok (.iconst 4, 1) := by decide +kernel
theorem d_M_tryTwo_41 : decode b_M_tryTwo 41 = .ok (.invokevirtual 62, 3) := by decide +kernel
theorem d_M_tryTwo_44 : decode b_M_tryTwo 44 = .ok (.lastore, 1) := by decide +kernel
theorem d_M_tryTwo_45 : decode b_M_tryTwo 45 = .ok (.aload_n 0, 1) := by decide +kernel
theorem d_M_tryTwo_46 : decode b_M_tryTwo 46 = .ok (.getfield 26, 3) := by decide +kernel
theorem d_M_tryTwo_49 : decode b_M_tryTwo 49 = .ok (.iload_n 1, 1) := by decide +kernel
theorem d_M_tryTwo_50 : decode b_M_tryTwo 50 = .ok (.lload_n 3, 1) := by decide +kernel
theorem d_M_tryTwo_51 : decode b_M_tryTwo 51 = .ok (.aload_n 0, 1) := by decide +kernel
theorem d_M_tryTwo_52 : decode b_M_tryTwo 52 = .ok (.getfield 26, 3) := by decide +kernel
theorem d_M_tryTwo_55 : decode b_M_tryTwo 55 = .ok (.iload_n 2, 1) := by decide +kernel
theorem d_M_tryTwo_56 : decode b_M_tryTwo 56 = .ok (.laload, 1) := by decide +kernel
theorem d_M_tryTwo_57 : decode b_M_tryTwo 57 = .ok (.lsub, 1) := by decide +kernel
theorem d_M_tryTwo_58 : decode b_M_tryTwo 58 = .ok (.lastore, 1) := by decide +kernel
theorem d_M_tryTwo_59 : decode b_M_tryTwo 59 = .ok (.aload_n 0, 1) := by decide +kernel
theorem d_M_tryTwo_60 : decode b_M_tryTwo 60 = .ok (.invokevirtual 59, 3) := by decide +kernel
theorem d_M_tryTwo_63 : decode b_M_tryTwo 63 = .ok (.return_, 1) := by decide +kernel
theorem d_M_product_0 : decode b_M_product 0 = .ok (.aload_n 0, 1) := by decide +kernel
theorem d_M_product_1 : decode b_M_product 1 = .ok (.getfield 19, 3) := by decide +kernel
theorem d_M_product_4 : decode b_M_product 4 = .ok (.iload_n 2, 1) := by decide +kernel
theorem d_M_product_5 : decode b_M_product 5 = .ok (.laload, 1) := by decide +kernel
theorem d_M_product_6 : decode b_M_product 6 = .ok (.aload_n 0, 1) := by decide +kernel
theorem d_M_product_7 : decode b_M_product 7 = .ok (.getfield 19, 3) := by decide +kernel
theorem d_M_product_10 : decode b_M_product 10 = .ok (.iload_n 1, 1) := by decide +kernel
theorem d_M_product_11 : decode b_M_product 11 = .ok (.laload, 1) := by decide +kernel
theorem d_M_product_12 : decode b_M_product 12 = .ok (.lsub, 1) := by decide +kernel
theorem d_M_product_13 : decode b_M_product 13 = .ok (.aload_n 0, 1) := by decide +kernel
theorem d_M_product_14 : decode b_M_product 14 = .ok (.getfield 19, 3) := by decide +kernel
theorem d_M_product_17 : decode b_M_product 17 = .ok (.iload_n 3, 1) := by decide +kernel
theorem d_M_product_18 : decode b_M_product 18 = .ok (.laload, 1) := by decide +kernel
theorem d_M_product_19 : decode b_M_product 19 = .ok (.aload_n 0, 1) := by decide +kernel
theorem d_M_product_20 : decode b_M_product 20 = .ok (.getfield 19, 3) := by decide +kernel
theorem d_M_product_23 : decode b_M_product 23 = .ok (.iload_n 1, 1) := by decide +kernel
theorem d_M_product_24 : decode b_M_product 24 = .ok (.laload, 1) := by decide +kernel
theorem d_M_product_25 : decode b_M_product 25 = .ok (.lsub, 1) := by decide +kernel
theorem d_M_product_26 : decode b_M_product 26 = .ok (.lmul, 1) := by decide +kernel
theorem d_M_product_27 : decode b_M_product 27 = .ok (.aload_n 0, 1) := by decide +kernel
theorem d_M_product_28 : decode b_M_product 28 = .ok (.getfield 23, 3) := by decide +kernel
theorem d_M_product_31 : decode b_M_product 31 = .ok (.iload_n 2, 1) := by decide +kernel
theorem d_M_product_32 : decode b_M_product 32 = .ok (.laload, 1) := by decide +kernel
theorem d_M_product_33 : decode b_M_product 33 = .ok (.aload_n 0, 1) := by decide +kernel
theorem d_M_product_34 : decode b_M_product 34 = .ok (.getfield 23, 3) := by decide +kernel
theorem d_M_product_37 : decode b_M_product 37 = .ok (.iload_n 1, 1) := by decide +kernel
theorem d_M_product_38 : decode b_M_product 38 = .ok (.laload, 1) := by decide +kernel
theorem d_M_product_39 : decode b_M_product 39 = .ok (.lsub, 1) := by decide +kernel
theorem d_M_product_40 : decode b_M_product 40 = .ok (.aload_n 0, 1) := by decide +kernel
theorem d_M_product_41 : decode b_M_product 41 = .ok (.getfield 23, 3) := by decide +kernel
theorem d_M_product_44 : decode b_M_product 44 = .ok (.iload_n 3, 1) := by decide +kernel
theorem d_M_product_45 : decode b_M_product 45 = .ok (.laload, 1) := by decide +kernel
theorem d_M_product_46 : decode b_M_product 46 = .ok (.aload_n 0, 1) := by decide +kernel
theorem d_M_product_47 : decode b_M_product 47 = .ok (.getfield 23, 3) := by decide +kernel
theorem d_M_product_50 : decode b_M_product 50 = .ok (.iload_n 1, 1) := by decide +kernel
theorem d_M_product_51 : decode b_M_product 51 = .ok (.laload, 1) := by decide +kernel
theorem d_M_product_52 : decode b_M_product 52 = .ok (.lsub, 1) := by decide +kernel
theorem d_M_product_53 : decode b_M_product 53 = .ok (.lmul, 1) := by decide +kernel
theorem d_M_product_54 : decode b_M_product 54 = .ok (.ladd, 1) := by decide +kernel
theorem d_M_product_55 : decode b_M_product 55 = .ok (.lreturn, 1) := by decide +kernel
theorem d_M_doubleArea_0 : decode b_M_doubleArea 0 = .ok (.aload_n 0, 1) := by decide +kernel
theorem d_M_doubleArea_1 : decode b_M_doubleArea 1 = .ok (.getfield 19, 3) := by decide +kernel
theorem d_M_doubleArea_4 : decode b_M_doubleArea 4 = .ok (.iload_n 2, 1) := by decide +kernel
theorem d_M_doubleArea_5 : decode b_M_doubleArea 5 = .ok (.laload, 1) := by decide +kernel
theorem d_M_doubleArea_6 : decode b_M_doubleArea 6 = .ok (.aload_n 0, 1) := by decide +kernel
theorem d_M_doubleArea_7 : decode b_M_doubleArea 7 = .ok (.getfield 19, 3) := by decide +kernel
theorem d_M_doubleArea_10 : decode b_M_doubleArea 10 = .ok (.iload_n 1, 1) := by decide +kernel
theorem d_M_doubleArea_11 : decode b_M_doubleArea 11 = .ok (.laload, 1) := by decide +kernel
theorem d_M_doubleArea_12 : decode b_M_doubleArea 12 = .ok (.lsub, 1) := by decide +kernel
theorem d_M_doubleArea_13 : decode b_M_doubleArea 13 = .ok (.aload_n 0, 1) := by decide +kernel
theorem d_M_doubleArea_14 : decode b_M_doubleArea 14 = .ok (.getfield 23, 3) := by decide +kernel
theorem d_M_doubleArea_17 : decode b_M_doubleArea 17 = .ok (.iload_n 3, 1) := by decide +kernel
theorem d_M_doubleArea_18 : decode b_M_doubleArea 18 = .ok (.laload, 1) := by decide +kernel
theorem d_M_doubleArea_19 : decode b_M_doubleArea 19 = .ok (.aload_n 0, 1) := by decide +kernel
theorem d_M_doubleArea_20 : decode b_M_doubleArea 20 = .ok (.getfield 23, 3) := by decide +kernel
theorem d_M_doubleArea_23 : decode b_M_doubleArea 23 = .ok (.iload_n 1, 1) := by decide +kernel
theorem d_M_doubleArea_24 : decode b_M_doubleArea 24 = .ok (.laload, 1) := by decide +kernel
theorem d_M_doubleArea_25 : decode b_M_doubleArea 25 = .ok (.lsub, 1) := by decide +kernel
theorem d_M_doubleArea_26 : decode b_M_doubleArea 26 = .ok (.lmul, 1) := by decide +kernel
theorem d_M_doubleArea_27 : decode b_M_doubleArea 27 = .ok (.aload_n 0, 1) := by decide +kernel
theorem d_M_doubleArea_28 : decode b_M_doubleArea 28 = .ok (.getfield 19, 3) := by decide +kernel
theorem d_M_doubleArea_31 : decode b_M_doubleArea 31 = .ok (.iload_n 3, 1) := by decide +kernel
theorem d_M_doubleArea_32 : decode b_M_doubleArea 32 = .ok (.laload, 1) := by decide +kernel
theorem d_M_doubleArea_33 : decode b_M_doubleArea 33 = .ok (.aload_n 0, 1) := by decide +kernel
theorem d_M_doubleArea_34 : decode b_M_doubleArea 34 = .ok (.getfield 19, 3) := by decide +kernel
theorem d_M_doubleArea_37 : decode b_M_doubleArea 37 = .ok (.iload_n 1, 1) := by decide +kernel
theorem d_M_doubleArea_38 : decode b_M_doubleArea 38 = .ok (.laload, 1) := by decide +kernel
theorem d_M_doubleArea_39 : decode b_M_doubleArea 39 = .ok (.lsub, 1) := by decide +kernel
theorem d_M_doubleArea_40 : decode b_M_doubleArea 40 = .ok (.aload_n 0, 1) := by decide +kernel
theorem d_M_doubleArea_41 : decode b_M_doubleArea 41 = .ok (.getfield 23, 3) := by decide +kernel
theorem d_M_doubleArea_44 : decode b_M_doubleArea 44 = .ok (.iload_n 2, 1) := by decide +kernel
theorem d_M_doubleArea_45 : decode b_M_doubleArea 45 = .ok (.laload, 1) := by decide +kernel
theorem d_M_doubleArea_46 : decode b_M_doubleArea 46 = .ok (.aload_n 0, 1) := by decide +kernel
theorem d_M_doubleArea_47 : decode b_M_doubleArea 47 = .ok (.getfield 23, 3) := by decide +kernel
theorem d_M_doubleArea_50 : decode b_M_doubleArea 50 = .ok (.iload_n 1, 1) := by decide +kernel
theorem d_M_doubleArea_51 : decode b_M_doubleArea 51 = .ok (.laload, 1) := by decide +kernel
theorem d_M_doubleArea_52 : decode b_M_doubleArea 52 = .ok (.lsub, 1) := by decide +kernel
theorem d_M_doubleArea_53 : decode b_M_doubleArea 53 = .ok (.lmul, 1) := by decide +kernel
theorem d_M_doubleArea_54 : decode b_M_doubleArea 54 = .ok (.lsub, 1) := by decide +kernel
theorem d_M_doubleArea_55 : decode b_M_doubleArea 55 = .ok (.lreturn, 1) := by decide +kernel
theorem d_M_tryThree_0 : decode b_M_tryThree 0 = .ok (.aload_n 0, 1) := by decide +kernel
theorem d_M_tryThree_1 : decode b_M_tryThree 1 = .ok (.iload_n 1, 1) := by decide +kernel
theorem d_M_tryThree_2 : decode b_M_tryThree 2 = .ok (.iload_n 2, 1) := by decide +kernel
theorem d_M_tryThree_3 : decode b_M_tryThree 3 = .ok (.iload_n 3, 1) := by decide +kernel
theorem d_M_tryThree_4 : decode b_M_tryThree 4 = .ok (.invokevirtual 66, 3) := by decide +kernel
theorem d_M_tryThree_7 : decode b_M_tryThree 7 = .ok (.lstore 4, 2) := by decide +kernel
theorem d_M_tryThree_9 : decode b_M_tryThree 9 = .ok (.lload 4, 2) := by decide +kernel
theorem d_M_tryThree_11 : decode b_M_tryThree 11 = .ok (.lconst 0, 1) := by decide +kernel
theorem d_M_tryThree_12 : decode b_M_tryThree 12 = .ok (.lcmp, 1) := by decide +kernel
theorem d_M_tryThree_13 : decode b_M_tryThree 13 = .ok (.ifCond .ne 4, 3) := by decide +kernel
theorem d_M_tryThree_16 : decode b_M_tryThree 16 = .ok (.return_, 1) := by decide +kernel
theorem d_M_tryThree_17 : decode b_M_tryThree 17 = .ok (.lload 4, 2) := by decide +kernel
theorem d_M_tryThree_19 : decode b_M_tryThree 19 = .ok (.lconst 0, 1) := by decide +kernel
theorem d_M_tryThree_20 : decode b_M_tryThree 20 = .ok (.lcmp, 1) := by decide +kernel
theorem d_M_tryThree_21 : decode b_M_tryThree 21 = .ok (.ifCond .ge 9, 3) := by decide +kernel
theorem d_M_tryThree_24 : decode b_M_tryThree 24 = .ok (.ldc2_w 69, 3) := by decide +kernel
theorem d_M_tryThree_27 : decode b_M_tryThree 27 = .ok (.goto 4, 3) := by decide +kernel
theorem d_M_tryThree_30 : decode b_M_tryThree 30 = .ok (.lconst 1, 1) := by decide +kernel
theorem d_M_tryThree_31 : decode b_M_tryThree 31 = .ok (.lstore 6, 2) := by decide +kernel
theorem d_M_tryThree_33 : decode b_M_tryThree 33 = .ok (.aload_n 0, 1) := by decide +kernel
theorem d_M_tryThree_34 : decode b_M_tryThree 34 = .ok (.lload 6, 2) := by decide +kernel
theorem d_M_tryThree_36 : decode b_M_tryThree 36 = .ok (.lload 4, 2) := by decide +kernel
theorem d_M_tryThree_38 : decode b_M_tryThree 38 = .ok (.lmul, 1) := by decide +kernel
theorem d_M_tryThree_39 : decode b_M_tryThree 39 = .ok (.invokevirtual 55, 3) := by decide +kernel
theorem d_M_tryThree_42 : decode b_M_tryThree 42 = .ok (.aload_n 0, 1) := by decide +kernel
theorem d_M_tryThree_43 : decode b_M_tryThree 43 = .ok (.getfield 26, 3) := by decide +kernel
theorem d_M_tryThree_46 : decode b_M_tryThree 46 = .ok (.iload_n 1, 1) := by decide +kernel
theorem d_M_tryThree_47 : decode b_M_tryThree 47 = .ok (.lload 6, 2) := by decide +kernel
theorem d_M_tryThree_49 : decode b_M_tryThree 49 = .ok (.aload_n 0, 1) := by decide +kernel
theorem d_M_tryThree_50 : decode b_M_tryThree 50 = .ok (.iconst 4, 1) := by decide +kernel
theorem d_M_tryThree_51 : decode b_M_tryThree 51 = .ok (.iload_n 2, 1) := by decide +kernel
theorem d_M_tryThree_52 : decode b_M_tryThree 52 = .ok (.iload_n 3, 1) := by decide +kernel
theorem d_M_tryThree_53 : decode b_M_tryThree 53 = .ok (.invokevirtual 66, 3) := by decide +kernel
theorem d_M_tryThree_56 : decode b_M_tryThree 56 = .ok (.lmul, 1) := by decide +kernel
theorem d_M_tryThree_57 : decode b_M_tryThree 57 = .ok (.lastore, 1) := by decide +kernel
theorem d_M_tryThree_58 : decode b_M_tryThree 58 = .ok (.aload_n 0, 1) := by decide +kernel
theorem d_M_tryThree_59 : decode b_M_tryThree 59 = .ok (.getfield 26, 3) := by decide +kernel
theorem d_M_tryThree_62 : decode b_M_tryThree 62 = .ok (.iload_n 2, 1) := by decide +kernel
theorem d_M_tryThree_63 : decode b_M_tryThree 63 = .ok (.lload 6, 2) := by decide +kernel
theorem d_M_tryThree_65 : decode b_M_tryThree 65 = .ok (.aload_n 0, 1) := by decide +kernel
theorem d_M_tryThree_66 : decode b_M_tryThree 66 = .ok (.iload_n 1, 1) := by decide +kernel
theorem d_M_tryThree_67 : decode b_M_tryThree 67 = .ok (.iconst 4, 1) := by decide +kernel
theorem d_M_tryThree_68 : decode b_M_tryThree 68 = .ok (.iload_n 3, 1) := by decide +kernel
theorem d_M_tryThree_69 : decode b_M_tryThree 69 = .ok (.invokevirtual 66, 3) := by decide +kernel
theorem d_M_tryThree_72 : decode b_M_tryThree 72 = .ok (.lmul, 1) := by decide +kernel
theorem d_M_tryThree_73 : decode b_M_tryThree 73 = .ok (.lastore, 1) := by decide +kernel
theorem d_M_tryThree_74 : decode b_M_tryThree 74 = .ok (.aload_n 0, 1) := by decide +kernel
theorem d_M_tryThree_75 : decode b_M_tryThree 75 = .ok (.getfield 26, 3) := by decide +kernel
theorem d_M_tryThree_78 : decode b_M_tryThree 78 = .ok (.iload_n 3, 1) := by decide +kernel
theorem d_M_tryThree_79 : decode b_M_tryThree 79 = .ok (.lload 6, 2) := by decide +kernel
theorem d_M_tryThree_81 : decode b_M_tryThree 81 = .ok (.aload_n 0, 1) := by decide +kernel
theorem d_M_tryThree_82 : decode b_M_tryThree 82 = .ok (.iload_n 1, 1) := by decide +kernel
theorem d_M_tryThree_83 : decode b_M_tryThree 83 = .ok (.iload_n 2, 1) := by decide +kernel
theorem d_M_tryThree_84 : decode b_M_tryThree 84 = .ok (.iconst 4, 1) := by decide +kernel
theorem d_M_tryThree_85 : decode b_M_tryThree 85 = .ok (.invokevirtual 66, 3) := by decide +kernel
theorem d_M_tryThree_88 : decode b_M_tryThree 88 = .ok (.lmul, 1) := by decide +kernel
theorem d_M_tryThree_89 : decode b_M_tryThree 89 = .ok (.lastore, 1) := by decide +kernel
theorem d_M_tryThree_90 : decode b_M_tryThree 90 = .ok (.aload_n 0, 1) := by decide +kernel
theorem d_M_tryThree_91 : decode b_M_tryThree 91 = .ok (.invokevirtual 59, 3) := by decide +kernel
theorem d_M_tryThree_94 : decode b_M_tryThree 94 = .ok (.return_, 1) := by decide +kernel
theorem d_M_isMet_0 : decode b_M_isMet 0 = .ok (.aload_n 0, 1) := by decide +kernel
theorem d_M_isMet_1 : decode b_M_isMet 1 = .ok (.getfield 39, 3) := by decide +kernel
theorem d_M_isMet_4 : decode b_M_isMet 4 = .ok (.ireturn, 1) := by decide +kernel
theorem d_M_aboveOf_0 : decode b_M_aboveOf 0 = .ok (.iconst 0, 1) := by decide +kernel
theorem d_M_aboveOf_1 : decode b_M_aboveOf 1 = .ok (.istore_n 2, 1) := by decide +kernel
theorem d_M_aboveOf_2 : decode b_M_aboveOf 2 = .ok (.iload_n 2, 1) := by decide +kernel
theorem d_M_aboveOf_3 : decode b_M_aboveOf 3 = .ok (.aload_n 0, 1) := by decide +kernel
theorem d_M_aboveOf_4 : decode b_M_aboveOf 4 = .ok (.getfield 15, 3) := by decide +kernel
theorem d_M_aboveOf_7 : decode b_M_aboveOf 7 = .ok (.if_icmp .ge 26, 3) := by decide +kernel
theorem d_M_aboveOf_10 : decode b_M_aboveOf 10 = .ok (.aload_n 0, 1) := by decide +kernel
theorem d_M_aboveOf_11 : decode b_M_aboveOf 11 = .ok (.getfield 9, 3) := by decide +kernel
theorem d_M_aboveOf_14 : decode b_M_aboveOf 14 = .ok (.iload_n 2, 1) := by decide +kernel
theorem d_M_aboveOf_15 : decode b_M_aboveOf 15 = .ok (.iaload, 1) := by decide +kernel
theorem d_M_aboveOf_16 : decode b_M_aboveOf 16 = .ok (.iload_n 1, 1) := by decide +kernel
theorem d_M_aboveOf_17 : decode b_M_aboveOf 17 = .ok (.if_icmp .ne 10, 3) := by decide +kernel
theorem d_M_aboveOf_20 : decode b_M_aboveOf 20 = .ok (.aload_n 0, 1) := by decide +kernel
theorem d_M_aboveOf_21 : decode b_M_aboveOf 21 = .ok (.getfield 33, 3) := by decide +kernel
theorem d_M_aboveOf_24 : decode b_M_aboveOf 24 = .ok (.iload_n 2, 1) := by decide +kernel
theorem d_M_aboveOf_25 : decode b_M_aboveOf 25 = .ok (.laload, 1) := by decide +kernel
theorem d_M_aboveOf_26 : decode b_M_aboveOf 26 = .ok (.lreturn, 1) := by decide +kernel
theorem d_M_aboveOf_27 : decode b_M_aboveOf 27 = .ok (.iinc 2 1, 3) := by decide +kernel
theorem d_M_aboveOf_30 : decode b_M_aboveOf 30 = .ok (.goto (-28), 3) := by decide +kernel
theorem d_M_aboveOf_33 : decode b_M_aboveOf 33 = .ok (.lconst 0, 1) := by decide +kernel
theorem d_M_aboveOf_34 : decode b_M_aboveOf 34 = .ok (.lreturn, 1) := by decide +kernel
theorem d_M_belowOfAll_0 : decode b_M_belowOfAll 0 = .ok (.aload_n 0, 1) := by decide +kernel
theorem d_M_belowOfAll_1 : decode b_M_belowOfAll 1 = .ok (.getfield 36, 3) := by decide +kernel
theorem d_M_belowOfAll_4 : decode b_M_belowOfAll 4 = .ok (.lreturn, 1) := by decide +kernel
theorem d_S_put_0 : decode b_S_put 0 = .ok (.aload_n 0, 1) := by decide +kernel
theorem d_S_put_1 : decode b_S_put 1 = .ok (.lload_n 1, 1) := by decide +kernel
theorem d_S_put_2 : decode b_S_put 2 = .ok (.invokevirtual 22, 3) := by decide +kernel
theorem d_S_put_5 : decode b_S_put 5 = .ok (.istore 5, 2) := by decide +kernel
theorem d_S_put_7 : decode b_S_put 7 = .ok (.iload 5, 2) := by decide +kernel
theorem d_S_put_9 : decode b_S_put 9 = .ok (.aload_n 0, 1) := by decide +kernel
theorem d_S_put_10 : decode b_S_put 10 = .ok (.getfield 18, 3) := by decide +kernel
theorem d_S_put_13 : decode b_S_put 13 = .ok (.if_icmp .ge 25, 3) := by decide +kernel
theorem d_S_put_16 : decode b_S_put 16 = .ok (.aload_n 0, 1) := by decide +kernel
theorem d_S_put_17 : decode b_S_put 17 = .ok (.getfield 9, 3) := by decide +kernel
theorem d_S_put_20 : decode b_S_put 20 = .ok (.iload 5, 2) := by decide +kernel
theorem d_S_put_22 : decode b_S_put 22 = .ok (.laload, 1) := by decide +kernel
theorem d_S_put_23 : decode b_S_put 23 = .ok (.lload_n 1, 1) := by decide +kernel
theorem d_S_put_24 : decode b_S_put 24 = .ok (.lcmp, 1) := by decide +kernel
theorem d_S_put_25 : decode b_S_put 25 = .ok (.ifCond .ne 13, 3) := by decide +kernel
theorem d_S_put_28 : decode b_S_put 28 = .ok (.aload_n 0, 1) := by decide +kernel
theorem d_S_put_29 : decode b_S_put 29 = .ok (.getfield 15, 3) := by decide +kernel
theorem d_S_put_32 : decode b_S_put 32 = .ok (.iload 5, 2) := by decide +kernel
theorem d_S_put_34 : decode b_S_put 34 = .ok (.lload_n 3, 1) := by decide +kernel
theorem d_S_put_35 : decode b_S_put 35 = .ok (.lastore, 1) := by decide +kernel
theorem d_S_put_36 : decode b_S_put 36 = .ok (.iconst 1, 1) := by decide +kernel
theorem d_S_put_37 : decode b_S_put 37 = .ok (.ireturn, 1) := by decide +kernel
theorem d_S_put_38 : decode b_S_put 38 = .ok (.aload_n 0, 1) := by decide +kernel
theorem d_S_put_39 : decode b_S_put 39 = .ok (.getfield 18, 3) := by decide +kernel
theorem d_S_put_42 : decode b_S_put 42 = .ok (.bipush 20, 2) := by decide +kernel
theorem d_S_put_44 : decode b_S_put 44 = .ok (.if_icmp .lt 5, 3) := by decide +kernel
theorem d_S_put_47 : decode b_S_put 47 = .ok (.iconst 0, 1) := by decide +kernel
theorem d_S_put_48 : decode b_S_put 48 = .ok (.ireturn, 1) := by decide +kernel
theorem d_S_put_49 : decode b_S_put 49 = .ok (.aload_n 0, 1) := by decide +kernel
theorem d_S_put_50 : decode b_S_put 50 = .ok (.getfield 18, 3) := by decide +kernel
theorem d_S_put_53 : decode b_S_put 53 = .ok (.istore 6, 2) := by decide +kernel
theorem d_S_put_55 : decode b_S_put 55 = .ok (.iload 6, 2) := by decide +kernel
theorem d_S_put_57 : decode b_S_put 57 = .ok (.iload 5, 2) := by decide +kernel
theorem d_S_put_59 : decode b_S_put 59 = .ok (.if_icmp .le 41, 3) := by decide +kernel
theorem d_S_put_62 : decode b_S_put 62 = .ok (.aload_n 0, 1) := by decide +kernel
theorem d_S_put_63 : decode b_S_put 63 = .ok (.getfield 9, 3) := by decide +kernel
theorem d_S_put_66 : decode b_S_put 66 = .ok (.iload 6, 2) := by decide +kernel
theorem d_S_put_68 : decode b_S_put 68 = .ok (.aload_n 0, 1) := by decide +kernel
theorem d_S_put_69 : decode b_S_put 69 = .ok (.getfield 9, 3) := by decide +kernel
theorem d_S_put_72 : decode b_S_put 72 = .ok (.iload 6, 2) := by decide +kernel
theorem d_S_put_74 : decode b_S_put 74 = .ok (.iconst 1, 1) := by decide +kernel
theorem d_S_put_75 : decode b_S_put 75 = .ok (.isub, 1) := by decide +kernel
theorem d_S_put_76 : decode b_S_put 76 = .ok (.laload, 1) := by decide +kernel
theorem d_S_put_77 : decode b_S_put 77 = .ok (.lastore, 1) := by decide +kernel
theorem d_S_put_78 : decode b_S_put 78 = .ok (.aload_n 0, 1) := by decide +kernel
theorem d_S_put_79 : decode b_S_put 79 = .ok (.getfield 15, 3) := by decide +kernel
theorem d_S_put_82 : decode b_S_put 82 = .ok (.iload 6, 2) := by decide +kernel
theorem d_S_put_84 : decode b_S_put 84 = .ok (.aload_n 0, 1) := by decide +kernel
theorem d_S_put_85 : decode b_S_put 85 = .ok (.getfield 15, 3) := by decide +kernel
theorem d_S_put_88 : decode b_S_put 88 = .ok (.iload 6, 2) := by decide +kernel
theorem d_S_put_90 : decode b_S_put 90 = .ok (.iconst 1, 1) := by decide +kernel
theorem d_S_put_91 : decode b_S_put 91 = .ok (.isub, 1) := by decide +kernel
theorem d_S_put_92 : decode b_S_put 92 = .ok (.laload, 1) := by decide +kernel
theorem d_S_put_93 : decode b_S_put 93 = .ok (.lastore, 1) := by decide +kernel
theorem d_S_put_94 : decode b_S_put 94 = .ok (.iinc 6 (-1), 3) := by decide +kernel
theorem d_S_put_97 : decode b_S_put 97 = .ok (.goto (-42), 3) := by decide +kernel
theorem d_S_put_100 : decode b_S_put 100 = .ok (.aload_n 0, 1) := by decide +kernel
theorem d_S_put_101 : decode b_S_put 101 = .ok (.getfield 9, 3) := by decide +kernel
theorem d_S_put_104 : decode b_S_put 104 = .ok (.iload 5, 2) := by decide +kernel
theorem d_S_put_106 : decode b_S_put 106 = .ok (.lload_n 1, 1) := by decide +kernel
theorem d_S_put_107 : decode b_S_put 107 = .ok (.lastore, 1) := by decide +kernel
theorem d_S_put_108 : decode b_S_put 108 = .ok (.aload_n 0, 1) := by decide +kernel
theorem d_S_put_109 : decode b_S_put 109 = .ok (.getfield 15, 3) := by decide +kernel
theorem d_S_put_112 : decode b_S_put 112 = .ok (.iload 5, 2) := by decide +kernel
theorem d_S_put_114 : decode b_S_put 114 = .ok (.lload_n 3, 1) := by decide +kernel
theorem d_S_put_115 : decode b_S_put 115 = .ok (.lastore, 1) := by decide +kernel
theorem d_S_put_116 : decode b_S_put 116 = .ok (.aload_n 0, 1) := by decide +kernel
theorem d_S_put_117 : decode b_S_put 117 = .ok (.dup, 1) := by decide +kernel
theorem d_S_put_118 : decode b_S_put 118 = .ok (.getfield 18, 3) := by decide +kernel
theorem d_S_put_121 : decode b_S_put 121 = .ok (.iconst 1, 1) := by decide +kernel
theorem d_S_put_122 : decode b_S_put 122 = .ok (.iadd, 1) := by decide +kernel
theorem d_S_put_123 : decode b_S_put 123 = .ok (.putfield 18, 3) := by decide +kernel
theorem d_S_put_126 : decode b_S_put 126 = .ok (.iconst 1, 1) := by decide +kernel
theorem d_S_put_127 : decode b_S_put 127 = .ok (.ireturn, 1) := by decide +kernel
theorem d_J_floorDiv_0 : decode b_J_floorDiv 0 = .ok (.lload_n 0, 1) := by decide +kernel
theorem d_J_floorDiv_1 : decode b_J_floorDiv 1 = .ok (.lload_n 2, 1) := by decide +kernel
theorem d_J_floorDiv_2 : decode b_J_floorDiv 2 = .ok (.ldiv, 1) := by decide +kernel
theorem d_J_floorDiv_3 : decode b_J_floorDiv 3 = .ok (.lstore 4, 2) := by decide +kernel
theorem d_J_floorDiv_5 : decode b_J_floorDiv 5 = .ok (.lload_n 0, 1) := by decide +kernel
theorem d_J_floorDiv_6 : decode b_J_floorDiv 6 = .ok (.lload_n 2, 1) := by decide +kernel
theorem d_J_floorDiv_7 : decode b_J_floorDiv 7 = .ok (.lxor, 1) := by decide +kernel
theorem d_J_floorDiv_8 : decode b_J_floorDiv 8 = .ok (.lconst 0, 1) := by decide +kernel
theorem d_J_floorDiv_9 : decode b_J_floorDiv 9 = .ok (.lcmp, 1) := by decide +kernel
theorem d_J_floorDiv_10 : decode b_J_floorDiv 10 = .ok (.ifCond .ge 17, 3) := by decide +kernel
theorem d_J_floorDiv_13 : decode b_J_floorDiv 13 = .ok (.lload 4, 2) := by decide +kernel
theorem d_J_floorDiv_15 : decode b_J_floorDiv 15 = .ok (.lload_n 2, 1) := by decide +kernel
theorem d_J_floorDiv_16 : decode b_J_floorDiv 16 = .ok (.lmul, 1) := by decide +kernel
theorem d_J_floorDiv_17 : decode b_J_floorDiv 17 = .ok (.lload_n 0, 1) := by decide +kernel
theorem d_J_floorDiv_18 : decode b_J_floorDiv 18 = .ok (.lcmp, 1) := by decide +kernel
theorem d_J_floorDiv_19 : decode b_J_floorDiv 19 = .ok (.ifCond .eq 8, 3) := by decide +kernel
theorem d_J_floorDiv_22 : decode b_J_floorDiv 22 = .ok (.lload 4, 2) := by decide +kernel
theorem d_J_floorDiv_24 : decode b_J_floorDiv 24 = .ok (.lconst 1, 1) := by decide +kernel
theorem d_J_floorDiv_25 : decode b_J_floorDiv 25 = .ok (.lsub, 1) := by decide +kernel
theorem d_J_floorDiv_26 : decode b_J_floorDiv 26 = .ok (.lreturn, 1) := by decide +kernel
theorem d_J_floorDiv_27 : decode b_J_floorDiv 27 = .ok (.lload 4, 2) := by decide +kernel
theorem d_J_floorDiv_29 : decode b_J_floorDiv 29 = .ok (.lreturn, 1) := by decide +kernel
end
section
/-! Helpers of mine over the kit's rows: a contract's start and end by a world, calls and returns in one row each. -/
def kPc (D : va_G) (cl : List vw_C) (tys : List (ClassId × FieldType)) (w : va_W) (sz : Nat) (av : List Value) : Array Value → State → Prop :=
  va_Pc av (fun U => U.heap.size = sz ∧ va_P D cl w U.heap ∧ va_K D cl tys U ∧ va_D (fun _ => True) w)
def kB {S : Type} (D : va_G) (cl : List vw_C) (tys : List (ClassId × FieldType)) (A : Nat → Prop) (V : S → va_W) : S → State → Prop :=
  fun u t => va_P D cl (V u) t.heap ∧ va_K D cl tys t ∧ va_D A (V u)
theorem k_fm {is : List Nat} {ws wc : va_W} (h : is.map (fun i => ws[i]?) = wc.map some) : is.filterMap (fun i => ws[i]?) = wc := by
  have e : is.filterMap (fun i => ws[i]?) = (is.map (fun i => ws[i]?)).filterMap id := by
    rw [List.filterMap_map]; rfl
  rw [e, h, List.filterMap_map]
  induction wc with
  | nil => rfl
  | cons a t ih => simp
theorem kPc_blind {D : va_G} {cl : List vw_C} {tys : List (ClassId × FieldType)} {w : va_W} {sz : Nat} {av : List Value} : FrameBlind (kPc D cl tys w sz av) := fun a U g mk q => by
  obtain ⟨q0, q1, qP, qK, qD⟩ := q
  exact ⟨q0, q1, qP, va_K.moved (u := U) (U := U.calling g mk a) (Vm.Alike.refl U.vm) qK, qD⟩
section KH
variable {p : Program} {l : Launch} {e : Env} {R : Room} {s : State} {m : MethodId} {args : Array Value} {below : List Frame} {meth : Method} {c : Code} {H H0 : Heap} {locs : List Loc} {cells slots : Nat} {Q : State → Prop}
variable {cc : ByteArray} {pc : Nat} {ls : Array Slot} {rest : List Value} {D : va_G} {cl : List vw_C} {tys : List (ClassId × FieldType)} {ws wc wr : va_W} {A : Nat → Prop}
theorem k_preS {As : List Value} (hP : va_P D cl ws H) (hD : va_D A ws) (hK : va_K D cl tys s) (is : List Nat) (hC : is.map (fun i => ws[i]?) = wc.map some) (hn : va_nd is = true) : PreS s H (kPc D cl tys wc H.size As) As :=
  ⟨kPc_blind, fun U hU hW => ⟨rfl, by rw [hU], by rw [hU]; exact hP.sub is (k_fm hC), va_K.moved hW.alike hK, (hD.sub is hn hC).weaken (fun _ _ _ _ => trivial)⟩⟩
theorem k_preV {As : List Value} {b ci q0 : Nat} {q : vw_C} {fs : List Value} (hP : va_P D cl ws H) (hD : va_D A ws) (hK : va_K D cl tys s) (is : List Nat) (hC : is.map (fun i => ws[i]?) = wc.map some) (hn : va_nd is = true) (hc : cl[ci]? = some q) (he : wc[q0]? = some (b, .inr (ci, fs))) : PreV s H q.1 b (kPc D cl tys wc H.size (.ref b :: As)) As :=
  ⟨kPc_blind, va_recv hK (hP.sub is (k_fm hC)) hc he, fun U hU hW => ⟨rfl, by rw [hU], by rw [hU]; exact hP.sub is (k_fm hC), va_K.moved hW.alike hK, (hD.sub is hn hC).weaken (fun _ _ _ _ => trivial)⟩⟩
theorem k_calll {S : Type} {post : Int64 → S → Prop} {V : S → va_W} {mc ms : Nat} {st0 : List Value} {a : Array Value} (hr : va_Run p l e R s m args below meth c H locs cells slots mc ms (F0 m pc ls st0) rest (va_Ql post (kB D cl tys (va_A wc H.size) V) (va_A wc H.size) a) (va_A wc H.size)) (hP : va_P D cl ws H) (hD : va_D A ws) (hS : va_S A H0 H locs) (hA : ∀ q, H0.size ≤ q → A q) (isC isR : List Nat) (hC : isC.map (fun i => ws[i]?) = wc.map some) (hR : isR.map (fun i => ws[i]?) = wr.map some) (hn : va_nd isR = true) (hdis : ∀ i ∈ isR, i ∉ isC)
    (kk : ∀ (r : Int64) (u : S) (H1 : Heap) (locs1 : List Loc), post r u → va_P D cl (wr ++ V u) H1 → va_D A (wr ++ V u) → va_S A H0 H1 locs1 → W p l e R s m args below meth c H1 locs1 (cells + mc) (slots + ms) Q (F0 m (pc + 3) ls (.long r :: rest))) : W p l e R s m args below meth c H locs cells slots Q (F0 m pc ls st0) := by
  have hFc := va_free (wc := wc) hD hS hA isC hC
  refine va_calll hr hS (fun q _ h => hFc q h) hFc (fun r u t H1 locs1 ht hvm hw hB hz1 hk1 hS1 => ?_)
  obtain ⟨hP1, hK1, hD1⟩ := hB
  rw [ht] at hP1
  obtain ⟨hP2, hD2⟩ := va_join (wr := wr) (w1 := V u) hP hD isC isR hC hR hn hdis hk1 hFc hP1 hD1
  exact kk r u H1 locs1 hw hP2 hD2 hS1
theorem k_calli {S : Type} {post : Int32 → S → Prop} {V : S → va_W} {mc ms : Nat} {st0 : List Value} {a : Array Value} (hr : va_Run p l e R s m args below meth c H locs cells slots mc ms (F0 m pc ls st0) rest (va_Qi post (kB D cl tys (va_A wc H.size) V) (va_A wc H.size) a) (va_A wc H.size)) (hP : va_P D cl ws H) (hD : va_D A ws) (hS : va_S A H0 H locs) (hA : ∀ q, H0.size ≤ q → A q) (isC isR : List Nat) (hC : isC.map (fun i => ws[i]?) = wc.map some) (hR : isR.map (fun i => ws[i]?) = wr.map some) (hn : va_nd isR = true) (hdis : ∀ i ∈ isR, i ∉ isC)
    (kk : ∀ (r : Int32) (u : S) (H1 : Heap) (locs1 : List Loc), post r u → va_P D cl (wr ++ V u) H1 → va_D A (wr ++ V u) → va_S A H0 H1 locs1 → W p l e R s m args below meth c H1 locs1 (cells + mc) (slots + ms) Q (F0 m (pc + 3) ls (.int r :: rest))) : W p l e R s m args below meth c H locs cells slots Q (F0 m pc ls st0) := by
  have hFc := va_free (wc := wc) hD hS hA isC hC
  refine va_calli hr hS (fun q _ h => hFc q h) hFc (fun r u t H1 locs1 ht hvm hw hB hz1 hk1 hS1 => ?_)
  obtain ⟨hP1, hK1, hD1⟩ := hB
  rw [ht] at hP1
  obtain ⟨hP2, hD2⟩ := va_join (wr := wr) (w1 := V u) hP hD isC isR hC hR hn hdis hk1 hFc hP1 hD1
  exact kk r u H1 locs1 hw hP2 hD2 hS1
theorem k_callv {S : Type} {post : S → Prop} {V : S → va_W} {mc ms : Nat} {st0 : List Value} {a : Array Value} (hr : va_Run p l e R s m args below meth c H locs cells slots mc ms (F0 m pc ls st0) rest (va_Qv post (kB D cl tys (va_A wc H.size) V) (va_A wc H.size) a) (va_A wc H.size)) (hP : va_P D cl ws H) (hD : va_D A ws) (hS : va_S A H0 H locs) (hA : ∀ q, H0.size ≤ q → A q) (isC isR : List Nat) (hC : isC.map (fun i => ws[i]?) = wc.map some) (hR : isR.map (fun i => ws[i]?) = wr.map some) (hn : va_nd isR = true) (hdis : ∀ i ∈ isR, i ∉ isC)
    (kk : ∀ (u : S) (H1 : Heap) (locs1 : List Loc), post u → va_P D cl (wr ++ V u) H1 → va_D A (wr ++ V u) → va_S A H0 H1 locs1 → W p l e R s m args below meth c H1 locs1 (cells + mc) (slots + ms) Q (F0 m (pc + 3) ls rest)) : W p l e R s m args below meth c H locs cells slots Q (F0 m pc ls st0) := by
  have hFc := va_free (wc := wc) hD hS hA isC hC
  refine va_callv hr hS (fun q _ h => hFc q h) hFc (fun u t H1 locs1 ht hvm hw hB hz1 hk1 hS1 => ?_)
  obtain ⟨hP1, hK1, hD1⟩ := hB
  rw [ht] at hP1
  obtain ⟨hP2, hD2⟩ := va_join (wr := wr) (w1 := V u) hP hD isC isR hC hR hn hdis hk1 hFc hP1 hD1
  exact kk u H1 locs1 hw hP2 hD2 hS1
theorem k_lret {S : Type} {post : Int64 → S → Prop} {V : S → va_W} {v : Int64} (hx : p.tables.exec = Jvm.exec) (hb : c.code = cc) (hr : meth.sig.returnType = some .long) (hlocks : meth.locks = false) (u : S) (hpost : post v u) (hP : va_P D cl ws H) (hD : va_D A ws) (hK : va_K D cl tys s) (hS : va_S A s.heap H locs) (is : List Nat) (hn : va_nd is = true) (hs : is.map (fun i => ws[i]?) = (V u).map some) (hdg : decode cc pc = .ok (.lreturn, 1)) : W p l e R s m args below meth c H locs cells slots (MQ below (va_Ql post (kB D cl tys A V) A) args s cells slots A) (F0 m pc ls [.long v]) :=
  W.lret hx hb hr (fun t ht hW => ⟨⟨v, u, rfl, hpost, by rw [ht]; exact hP.sub is (k_fm hs), va_K.moved hW.alike hK, hD.sub is hn hs⟩, hS.F ht⟩) hS.2.2 hdg hlocks
theorem k_iret {S : Type} {post : Int32 → S → Prop} {V : S → va_W} {v : Int32} (hx : p.tables.exec = Jvm.exec) (hb : c.code = cc) (hr : meth.sig.returnType = some .int) (hlocks : meth.locks = false) (u : S) (hpost : post v u) (hP : va_P D cl ws H) (hD : va_D A ws) (hK : va_K D cl tys s) (hS : va_S A s.heap H locs) (is : List Nat) (hn : va_nd is = true) (hs : is.map (fun i => ws[i]?) = (V u).map some) (hdg : decode cc pc = .ok (.ireturn, 1)) : W p l e R s m args below meth c H locs cells slots (MQ below (va_Qi post (kB D cl tys A V) A) args s cells slots A) (F0 m pc ls [.int v]) :=
  W.iret hx hb hr (fun t ht hW => ⟨⟨v, u, rfl, hpost, by rw [ht]; exact hP.sub is (k_fm hs), va_K.moved hW.alike hK, hD.sub is hn hs⟩, hS.F ht⟩) hS.2.2 hdg hlocks
theorem k_zret {S : Type} {post : Int32 → S → Prop} {V : S → va_W} {v : Int32} (hx : p.tables.exec = Jvm.exec) (hb : c.code = cc) (hr : meth.sig.returnType = some .boolean) (hlocks : meth.locks = false) (hv : narrow .boolean (.int v) = .int v) (u : S) (hpost : post v u) (hP : va_P D cl ws H) (hD : va_D A ws) (hK : va_K D cl tys s) (hS : va_S A s.heap H locs) (is : List Nat) (hn : va_nd is = true) (hs : is.map (fun i => ws[i]?) = (V u).map some) (hdg : decode cc pc = .ok (.ireturn, 1)) : W p l e R s m args below meth c H locs cells slots (MQ below (va_Qi post (kB D cl tys A V) A) args s cells slots A) (F0 m pc ls [.int v]) :=
  W.zret hx hb hr hv (fun t ht hW => ⟨⟨v, u, rfl, hpost, by rw [ht]; exact hP.sub is (k_fm hs), va_K.moved hW.alike hK, hD.sub is hn hs⟩, hS.F ht⟩) hS.2.2 hdg hlocks
theorem k_vret {S : Type} {post : S → Prop} {V : S → va_W} (hx : p.tables.exec = Jvm.exec) (hb : c.code = cc) (hr : meth.sig.returnType = none) (hlocks : meth.locks = false) (u : S) (hpost : post u) (hP : va_P D cl ws H) (hD : va_D A ws) (hK : va_K D cl tys s) (hS : va_S A s.heap H locs) (is : List Nat) (hn : va_nd is = true) (hs : is.map (fun i => ws[i]?) = (V u).map some) (hdg : decode cc pc = .ok (.return_, 1)) : W p l e R s m args below meth c H locs cells slots (MQ below (va_Qv post (kB D cl tys A V) A) args s cells slots A) (F0 m pc ls []) :=
  W.vret hx hb hr (fun t ht hW => ⟨⟨u, rfl, hpost, by rw [ht]; exact hP.sub is (k_fm hs), va_K.moved hW.alike hK, hD.sub is hn hs⟩, hS.F ht⟩) hS.2.2 hdg hlocks
/-- the top of the stack by another word for the same number -/
theorem k_toi {x y : Int32} (h : x = y) (k : W p l e R s m args below meth c H locs cells slots Q (F0 m pc ls (.int y :: rest))) : W p l e R s m args below meth c H locs cells slots Q (F0 m pc ls (.int x :: rest)) := by
  rw [h]; exact k
theorem k_tol {x y : Int64} (h : x = y) (k : W p l e R s m args below meth c H locs cells slots Q (F0 m pc ls (.long y :: rest))) : W p l e R s m args below meth c H locs cells slots Q (F0 m pc ls (.long x :: rest)) := by
  rw [h]; exact k
theorem k_lald (hexec : p.tables.exec = Jvm.exec) (hb : c.code = cc) (hK : va_K D cl tys s) (hP : va_P D cl ws H) (q0 t0 : Nat) {a : Nat} {cA : ClassId} {n j : Nat} {f : Nat → Int64} (ha : ws[q0]? = some (a, .inl (cA, n, .inr (.inl f)))) (ht : tys[t0]? = some (cA, .long)) (hj : j < n) (hn : n < 2 ^ 31) (hdg : decode cc pc = .ok (.laload, 1))
    (kk : W p l e R s m args below meth c H locs cells slots Q (F0 m (pc + 1) ls (.long (f j) :: rest))) : W p l e R s m args below meth c H locs cells slots Q (F0 m pc ls (.int (nI j) :: .ref a :: rest)) :=
  va_lald hexec hb hK hP q0 t0 ha ht (vp_in_nI hj hn) hdg (by rw [nI_clamp (Nat.lt_trans hj hn)]; exact kk)
theorem k_iald (hexec : p.tables.exec = Jvm.exec) (hb : c.code = cc) (hK : va_K D cl tys s) (hP : va_P D cl ws H) (q0 t0 : Nat) {a : Nat} {cA : ClassId} {n j : Nat} {f : Nat → Int32} (ha : ws[q0]? = some (a, .inl (cA, n, .inl f))) (ht : tys[t0]? = some (cA, .int)) (hj : j < n) (hn : n < 2 ^ 31) (hdg : decode cc pc = .ok (.iaload, 1))
    (kk : W p l e R s m args below meth c H locs cells slots Q (F0 m (pc + 1) ls (.int (f j) :: rest))) : W p l e R s m args below meth c H locs cells slots Q (F0 m pc ls (.int (nI j) :: .ref a :: rest)) :=
  va_iald hexec hb hK hP q0 t0 ha ht (vp_in_nI hj hn) hdg (by rw [nI_clamp (Nat.lt_trans hj hn)]; exact kk)
theorem k_zald (hexec : p.tables.exec = Jvm.exec) (hb : c.code = cc) (hK : va_K D cl tys s) (hP : va_P D cl ws H) (q0 t0 : Nat) {a : Nat} {cA : ClassId} {n j : Nat} {f : Nat → Int32} (ha : ws[q0]? = some (a, .inl (cA, n, .inl f))) (ht : tys[t0]? = some (cA, .boolean)) (hj : j < n) (hn : n < 2 ^ 31) (hdg : decode cc pc = .ok (.baload, 1))
    (kk : W p l e R s m args below meth c H locs cells slots Q (F0 m (pc + 1) ls (.int (f j) :: rest))) : W p l e R s m args below meth c H locs cells slots Q (F0 m pc ls (.int (nI j) :: .ref a :: rest)) :=
  va_zald hexec hb hK hP q0 t0 ha ht (vp_in_nI hj hn) hdg (by rw [nI_clamp (Nat.lt_trans hj hn)]; exact kk)
theorem k_last (hexec : p.tables.exec = Jvm.exec) (hb : c.code = cc) (hK : va_K D cl tys s) (hP : va_P D cl ws H) (hD : va_D A ws) (hS : va_S A H0 H locs) (q0 t0 : Nat) {a : Nat} {cA : ClassId} {n j : Nat} {f : Nat → Int64} {x : Int64} (ha : ws[q0]? = some (a, .inl (cA, n, .inr (.inl f)))) (ht : tys[t0]? = some (cA, .long)) (hj : j < n) (hn : n < 2 ^ 31) (hdg : decode cc pc = .ok (.lastore, 1))
    (kk : ∀ (H1 : Heap) (locs1 : List Loc), va_P D cl (ws.set q0 (a, .inl (cA, n, .inr (.inl (vp_updL f j x))))) H1 → va_D A (ws.set q0 (a, .inl (cA, n, .inr (.inl (vp_updL f j x))))) → va_S A H0 H1 locs1 → W p l e R s m args below meth c H1 locs1 cells slots Q (F0 m (pc + 1) ls rest)) : W p l e R s m args below meth c H locs cells slots Q (F0 m pc ls (.long x :: .int (nI j) :: .ref a :: rest)) :=
  va_last hexec hb hK hP hD hS q0 t0 ha ht (vp_in_nI hj hn) hdg (by rw [nI_clamp (Nat.lt_trans hj hn)]; exact kk)
theorem k_iast (hexec : p.tables.exec = Jvm.exec) (hb : c.code = cc) (hK : va_K D cl tys s) (hP : va_P D cl ws H) (hD : va_D A ws) (hS : va_S A H0 H locs) (q0 t0 : Nat) {a : Nat} {cA : ClassId} {n j : Nat} {f : Nat → Int32} {x : Int32} (ha : ws[q0]? = some (a, .inl (cA, n, .inl f))) (ht : tys[t0]? = some (cA, .int)) (hj : j < n) (hn : n < 2 ^ 31) (hdg : decode cc pc = .ok (.iastore, 1))
    (kk : ∀ (H1 : Heap) (locs1 : List Loc), va_P D cl (ws.set q0 (a, .inl (cA, n, .inl (upd f j x)))) H1 → va_D A (ws.set q0 (a, .inl (cA, n, .inl (upd f j x)))) → va_S A H0 H1 locs1 → W p l e R s m args below meth c H1 locs1 cells slots Q (F0 m (pc + 1) ls rest)) : W p l e R s m args below meth c H locs cells slots Q (F0 m pc ls (.int x :: .int (nI j) :: .ref a :: rest)) :=
  va_iast hexec hb hK hP hD hS q0 t0 ha ht (vp_in_nI hj hn) hdg (by rw [nI_clamp (Nat.lt_trans hj hn)]; exact kk)
theorem k_zast (hexec : p.tables.exec = Jvm.exec) (hb : c.code = cc) (hK : va_K D cl tys s) (hP : va_P D cl ws H) (hD : va_D A ws) (hS : va_S A H0 H locs) (q0 t0 : Nat) {a : Nat} {cA : ClassId} {n j : Nat} {f : Nat → Int32} {x : Int32} (ha : ws[q0]? = some (a, .inl (cA, n, .inl f))) (ht : tys[t0]? = some (cA, .boolean)) (hv : vp_nar .boolean x = x) (hj : j < n) (hn : n < 2 ^ 31) (hdg : decode cc pc = .ok (.bastore, 1))
    (kk : ∀ (H1 : Heap) (locs1 : List Loc), va_P D cl (ws.set q0 (a, .inl (cA, n, .inl (upd f j x)))) H1 → va_D A (ws.set q0 (a, .inl (cA, n, .inl (upd f j x)))) → va_S A H0 H1 locs1 → W p l e R s m args below meth c H1 locs1 cells slots Q (F0 m (pc + 1) ls rest)) : W p l e R s m args below meth c H locs cells slots Q (F0 m pc ls (.int x :: .int (nI j) :: .ref a :: rest)) :=
  va_zast hexec hb hK hP hD hS q0 t0 ha ht (vp_in_nI hj hn) hdg (by rw [nI_clamp (Nat.lt_trans hj hn), hv]; exact kk)
/-- a new array whose class is known already -/
theorem k_newa (hexec : p.tables.exec = Jvm.exec) (hb : c.code = cc) {atype : ArrayType} (harr : (Cond.arrayClass (newarray.typeOf atype)).before args s = true) {ty : FieldType} (hty : newarray.typeOf atype = ty) (hK : va_K D cl tys s) (hP : va_P D cl ws H) (hD : va_D A ws) (hS : va_S A H0 H locs) (hA : ∀ q, H0.size ≤ q → A q)
    (t0 : Nat) {cT : ClassId} (ht : tys[t0]? = some (cT, ty)) (hob : ∀ C, ty ≠ .object C)
    {n N' : Nat} {a0 : vp_A} (ha : ∀ cA : ClassId, vp_cell cA a0 = arrV cA N' (fun _ => defaultValue ty)) (hn : n < 2 ^ 31) (hN : n = N') (hbytes : N' * componentBytes ty ≤ 536870912) (hcells : cells + 1 ≤ R.cells) (hslots : slots + N' ≤ R.slots) (hdg : decode cc pc = .ok (.newarray atype, 2))
    (kk : ∀ (q : Nat) (H1 : Heap), va_P D cl (ws ++ [(q, .inl (cT, a0))]) H1 → va_D A (ws ++ [(q, .inl (cT, a0))]) → va_S A H0 H1 locs →
      W p l e R s m args below meth c H1 locs (cells + 1) (slots + N') Q (F0 m (pc + 2) ls (.ref q :: rest))) : W p l e R s m args below meth c H locs cells slots Q (F0 m pc ls (.int (nI n) :: rest)) := by
  refine va_newa hexec hb harr hty hK hP hD hS hA ha (nI_pos hn) (by rw [nI_clamp hn]; exact hN) hbytes hcells hslots hdg (fun q cA H1 hK1 hP1 hD1 hS1 => ?_)
  have h1 := (hK1.2 tys.length (cA, ty) (by simp)).2
  have h2 := (hK.2 t0 (cT, ty) ht).2
  have e1 : cA = cT := by
    cases ty with
    | object C => exact absurd rfl (hob C)
    | _ =>
      simp only [va_RA] at h1 h2
      rw [h1] at h2
      exact Option.some.inj h2
  subst e1
  exact kk q H1 hP1 hD1 hS1
end KH
section KC
variable {p : Program} {l : Launch} {e : Env} {R : Room} {s : State} {m : MethodId} {args : Array Value} {below : List Frame} {meth : Method} {c : Code} {H : Heap} {locs : List Loc} {cells slots : Nat} {Q : State → Prop}
variable {cc : ByteArray} {pc : Nat} {ls : Array Slot} {rest : List Value} {x y : Int64} {off : Int} {tgt : Nat} {a b : Nat}
theorem k_cmp3 (x y : Int64) : (lg_cmp x y < 0 ↔ x < y) ∧ (lg_cmp x y = 0 ↔ x = y) ∧ (0 < lg_cmp x y ↔ y < x) ∧ (lg_cmp x y ≤ 0 ↔ x ≤ y) ∧ (0 ≤ lg_cmp x y ↔ y ≤ x) :=
  ⟨lg_cmp_lt x y, lg_cmp_eq x y, lg_cmp_gt x y, lg_cmp_le x y, lg_cmp_ge x y⟩
theorem k_jlt (hx : p.tables.exec = Jvm.exec) (hb : c.code = cc) (h1 : decode cc pc = .ok (.lcmp, 1)) (h2 : decode cc (pc + 1) = .ok (.ifCond .lt off, 3)) (ht : ((pc + 1 : Nat) : Int) + off = (tgt : Int))
    (kt : x < y → W p l e R s m args below meth c H locs cells slots Q (F0 m tgt ls rest)) (kf : y ≤ x → W p l e R s m args below meth c H locs cells slots Q (F0 m (pc + 1 + 3) ls rest)) : W p l e R s m args below meth c H locs cells slots Q (F0 m pc ls (.long y :: .long x :: rest)) :=
  W.lcmp hx hb h1 (lv_if_lt hx hb h2 ht (fun h => kt ((k_cmp3 x y).1.mp h)) (fun h => kf (Int64.not_lt.mp (fun z => h ((k_cmp3 x y).1.mpr z)))))
theorem k_jge (hx : p.tables.exec = Jvm.exec) (hb : c.code = cc) (h1 : decode cc pc = .ok (.lcmp, 1)) (h2 : decode cc (pc + 1) = .ok (.ifCond .ge off, 3)) (ht : ((pc + 1 : Nat) : Int) + off = (tgt : Int))
    (kt : y ≤ x → W p l e R s m args below meth c H locs cells slots Q (F0 m tgt ls rest)) (kf : x < y → W p l e R s m args below meth c H locs cells slots Q (F0 m (pc + 1 + 3) ls rest)) : W p l e R s m args below meth c H locs cells slots Q (F0 m pc ls (.long y :: .long x :: rest)) :=
  W.lcmp hx hb h1 (lv_if_ge hx hb h2 ht (fun h => kt ((k_cmp3 x y).2.2.2.2.mp h)) (fun h => kf (Int64.not_le.mp (fun z => h ((k_cmp3 x y).2.2.2.2.mpr z)))))
theorem k_jgt (hx : p.tables.exec = Jvm.exec) (hb : c.code = cc) (h1 : decode cc pc = .ok (.lcmp, 1)) (h2 : decode cc (pc + 1) = .ok (.ifCond .gt off, 3)) (ht : ((pc + 1 : Nat) : Int) + off = (tgt : Int))
    (kt : y < x → W p l e R s m args below meth c H locs cells slots Q (F0 m tgt ls rest)) (kf : x ≤ y → W p l e R s m args below meth c H locs cells slots Q (F0 m (pc + 1 + 3) ls rest)) : W p l e R s m args below meth c H locs cells slots Q (F0 m pc ls (.long y :: .long x :: rest)) :=
  W.lcmp hx hb h1 (lv_if_gt hx hb h2 ht (fun h => kt ((k_cmp3 x y).2.2.1.mp h)) (fun h => kf (Int64.not_lt.mp (fun z => h ((k_cmp3 x y).2.2.1.mpr z)))))
theorem k_jle (hx : p.tables.exec = Jvm.exec) (hb : c.code = cc) (h1 : decode cc pc = .ok (.lcmp, 1)) (h2 : decode cc (pc + 1) = .ok (.ifCond .le off, 3)) (ht : ((pc + 1 : Nat) : Int) + off = (tgt : Int))
    (kt : x ≤ y → W p l e R s m args below meth c H locs cells slots Q (F0 m tgt ls rest)) (kf : y < x → W p l e R s m args below meth c H locs cells slots Q (F0 m (pc + 1 + 3) ls rest)) : W p l e R s m args below meth c H locs cells slots Q (F0 m pc ls (.long y :: .long x :: rest)) :=
  W.lcmp hx hb h1 (lv_if_le hx hb h2 ht (fun h => kt ((k_cmp3 x y).2.2.2.1.mp h)) (fun h => kf (Int64.not_le.mp (fun z => h ((k_cmp3 x y).2.2.2.1.mpr z)))))
theorem k_jeq (hx : p.tables.exec = Jvm.exec) (hb : c.code = cc) (h1 : decode cc pc = .ok (.lcmp, 1)) (h2 : decode cc (pc + 1) = .ok (.ifCond .eq off, 3)) (ht : ((pc + 1 : Nat) : Int) + off = (tgt : Int))
    (kt : x = y → W p l e R s m args below meth c H locs cells slots Q (F0 m tgt ls rest)) (kf : ¬ x = y → W p l e R s m args below meth c H locs cells slots Q (F0 m (pc + 1 + 3) ls rest)) : W p l e R s m args below meth c H locs cells slots Q (F0 m pc ls (.long y :: .long x :: rest)) :=
  W.lcmp hx hb h1 (lv_if_eq hx hb h2 ht (fun h => kt ((k_cmp3 x y).2.1.mp h)) (fun h => kf (fun z => h ((k_cmp3 x y).2.1.mpr z))))
theorem k_jne (hx : p.tables.exec = Jvm.exec) (hb : c.code = cc) (h1 : decode cc pc = .ok (.lcmp, 1)) (h2 : decode cc (pc + 1) = .ok (.ifCond .ne off, 3)) (ht : ((pc + 1 : Nat) : Int) + off = (tgt : Int))
    (kt : ¬ x = y → W p l e R s m args below meth c H locs cells slots Q (F0 m tgt ls rest)) (kf : x = y → W p l e R s m args below meth c H locs cells slots Q (F0 m (pc + 1 + 3) ls rest)) : W p l e R s m args below meth c H locs cells slots Q (F0 m pc ls (.long y :: .long x :: rest)) :=
  W.lcmp hx hb h1 (lv_if_ne hx hb h2 ht (fun h => kt (fun z => h ((k_cmp3 x y).2.1.mpr z))) (fun h => kf ((k_cmp3 x y).2.1.mp h)))
/-- comparisons of two ints that are small naturals -/
theorem k_nlt (hx : p.tables.exec = Jvm.exec) (hb : c.code = cc) (hdg : decode cc pc = .ok (.if_icmp .lt off, 3)) (ht : (pc : Int) + off = (tgt : Int)) (ha : a < 2 ^ 31) (hb2 : b < 2 ^ 31)
    (kt : a < b → W p l e R s m args below meth c H locs cells slots Q (F0 m tgt ls rest)) (kf : b ≤ a → W p l e R s m args below meth c H locs cells slots Q (F0 m (pc + 3) ls rest)) : W p l e R s m args below meth c H locs cells slots Q (F0 m pc ls (.int (nI b) :: .int (nI a) :: rest)) :=
  lv_icmp_lt hx hb hdg ht (fun h => kt ((nI_ltI ha hb2).mp h)) (fun h => kf (Nat.le_of_not_lt (fun z => h ((nI_ltI ha hb2).mpr z))))
theorem k_nge (hx : p.tables.exec = Jvm.exec) (hb : c.code = cc) (hdg : decode cc pc = .ok (.if_icmp .ge off, 3)) (ht : (pc : Int) + off = (tgt : Int)) (ha : a < 2 ^ 31) (hb2 : b < 2 ^ 31)
    (kt : b ≤ a → W p l e R s m args below meth c H locs cells slots Q (F0 m tgt ls rest)) (kf : a < b → W p l e R s m args below meth c H locs cells slots Q (F0 m (pc + 3) ls rest)) : W p l e R s m args below meth c H locs cells slots Q (F0 m pc ls (.int (nI b) :: .int (nI a) :: rest)) :=
  lv_icmp_ge hx hb hdg ht (fun h => kt ((nI_leI hb2 ha).mp h)) (fun h => kf (Nat.lt_of_not_le (fun z => h ((nI_leI hb2 ha).mpr z))))
theorem k_ngt (hx : p.tables.exec = Jvm.exec) (hb : c.code = cc) (hdg : decode cc pc = .ok (.if_icmp .gt off, 3)) (ht : (pc : Int) + off = (tgt : Int)) (ha : a < 2 ^ 31) (hb2 : b < 2 ^ 31)
    (kt : b < a → W p l e R s m args below meth c H locs cells slots Q (F0 m tgt ls rest)) (kf : a ≤ b → W p l e R s m args below meth c H locs cells slots Q (F0 m (pc + 3) ls rest)) : W p l e R s m args below meth c H locs cells slots Q (F0 m pc ls (.int (nI b) :: .int (nI a) :: rest)) :=
  lv_icmp_gt hx hb hdg ht (fun h => kt ((nI_ltI hb2 ha).mp h)) (fun h => kf (Nat.le_of_not_lt (fun z => h ((nI_ltI hb2 ha).mpr z))))
theorem k_nle (hx : p.tables.exec = Jvm.exec) (hb : c.code = cc) (hdg : decode cc pc = .ok (.if_icmp .le off, 3)) (ht : (pc : Int) + off = (tgt : Int)) (ha : a < 2 ^ 31) (hb2 : b < 2 ^ 31)
    (kt : a ≤ b → W p l e R s m args below meth c H locs cells slots Q (F0 m tgt ls rest)) (kf : b < a → W p l e R s m args below meth c H locs cells slots Q (F0 m (pc + 3) ls rest)) : W p l e R s m args below meth c H locs cells slots Q (F0 m pc ls (.int (nI b) :: .int (nI a) :: rest)) :=
  lv_icmp_le hx hb hdg ht (fun h => kt ((nI_leI ha hb2).mp h)) (fun h => kf (Nat.lt_of_not_le (fun z => h ((nI_leI ha hb2).mpr z))))
theorem k_neq (hx : p.tables.exec = Jvm.exec) (hb : c.code = cc) (hdg : decode cc pc = .ok (.if_icmp .eq off, 3)) (ht : (pc : Int) + off = (tgt : Int)) (ha : a < 2 ^ 31) (hb2 : b < 2 ^ 31)
    (kt : a = b → W p l e R s m args below meth c H locs cells slots Q (F0 m tgt ls rest)) (kf : a ≠ b → W p l e R s m args below meth c H locs cells slots Q (F0 m (pc + 3) ls rest)) : W p l e R s m args below meth c H locs cells slots Q (F0 m pc ls (.int (nI b) :: .int (nI a) :: rest)) :=
  lv_icmp_eq hx hb hdg ht (fun h => kt ((nI_eq ha hb2).mp h)) (fun h => kf (fun z => h ((nI_eq ha hb2).mpr z)))
theorem k_nne (hx : p.tables.exec = Jvm.exec) (hb : c.code = cc) (hdg : decode cc pc = .ok (.if_icmp .ne off, 3)) (ht : (pc : Int) + off = (tgt : Int)) (ha : a < 2 ^ 31) (hb2 : b < 2 ^ 31)
    (kt : a ≠ b → W p l e R s m args below meth c H locs cells slots Q (F0 m tgt ls rest)) (kf : a = b → W p l e R s m args below meth c H locs cells slots Q (F0 m (pc + 3) ls rest)) : W p l e R s m args below meth c H locs cells slots Q (F0 m pc ls (.int (nI b) :: .int (nI a) :: rest)) :=
  lv_icmp_ne hx hb hdg ht (fun h => kt (fun z => h ((nI_eq ha hb2).mpr z))) (fun h => kf ((nI_eq ha hb2).mp h))
end KC
/-- a contract out of its body's walk, also for a method of a class that has rows of its own for other methods -/
theorem k_ofW {l : Launch} {y : MethodName} {ws ws' : List Cond} {rm : Room} {Pc : Array Value → State → Prop} {Qc : Array Value → State → Outcome → State → Prop} {mc ms : Nat} {free : Addr → Prop} {cc : ByteArray} {maxL : Nat} {ret : Option FieldType}
    (hy : plainFor y = true) (hw : ws = Cond.code y cc maxL ret :: ws')
    (body : ∀ p e s m args below meth c s₁, BodyLoose p l y (headSpec ws rm) cc maxL ret e s m args below meth c s₁ → c.maxLocals = maxL → Pc args s →
      W p l e rm s m args below meth c s.heap [] 0 0 (MQ below Qc args s mc ms free) (entryFrame m args maxL)) : Met l y ws rm Pc Qc mc ms free := by
  refine MetFree.of_bodySF (code := cc) (maxLocals := maxL) (ret := ret) hy (fun args s m h hn => ?_) (fun p e s m args below meth c s₁ B hml hP _ => ?_)
  · have hc := Cond.code_spec hn (atoms_spec (ws := ws) h _ (by rw [hw]; exact List.mem_cons_self))
    obtain ⟨meth, c, h1, h2, h3, h4, h5, h6, -, -⟩ := hc
    exact ⟨meth, c, h1, h2, h3, h4, h5, h6⟩
  · have hh : s₁.heap = s.heap := by rw [B.state]; rfl
    obtain ⟨t, a1, o, b1, b2, b3⟩ := body p e s m args below meth c s₁ B hml hP s₁ hh (Stand.of_body B)
    exact ⟨t, o, a1, b1, b2, b3⟩
/-- a contract's body, from the method's entry -/
theorem k_met {l : Launch} {y : MethodName} {ws ws' : List Cond} {rm : Room} {mc ms : Nat} {cc : ByteArray} {maxL : Nat} {ret : Option FieldType} {D : va_G} {cl : List vw_C} {tys : List (ClassId × FieldType)} {w : va_W} {sz : Nat} {av : List Value}
    (Qg : (Nat → Prop) → Array Value → State → Outcome → State → Prop) (hy : plainFor y = true) (hw : ws = Cond.code y cc maxL ret :: ws') (hlen : (lg_sl av).length ≤ maxL)
    (body : ∀ (p : Program) (e : Env) (s : State) (m : MethodId) (below : List Frame) (meth : Method) (c : Code) (A : Nat → Prop), p.tables.exec = Jvm.exec → c.code = cc → meth.sig.returnType = ret → c.maxLocals = maxL → s.vm.findClass y.cls = some m.cls → (∀ w ∈ ws, w.before av.toArray s = true) → meth.locks = false → meth.name = y.name → (∀ q, s.heap.size ≤ q → A q) → ∀ H : Heap, va_P D cl w H → va_K D cl tys s → va_D A w → va_S A s.heap H [] → ∀ ls : Array Slot, lv_has ls maxL (lv_args 0 av) →
      W p l e rm s m av.toArray below meth c H [] 0 0 (MQ below (Qg A) av.toArray s mc ms A) (F0 m 0 ls [])) : Met l y ws rm (kPc D cl tys w sz av) (Qg (va_A w sz)) mc ms (va_A w sz) := by
  refine k_ofW (cc := cc) (maxL := maxL) (ret := ret) hy hw ?_
  intro p e s m args below meth c s₁ B hml hv
  obtain ⟨rfl, hsz, hP, hK, hD0⟩ := hv
  subst hsz
  rw [lg_entry_eq]
  exact body p e s m below meth c (va_A w s.heap.size) B.exec B.bytes B.returns hml (findClass_of_methodNamed B.named) (atoms_spec (ws := ws) B.pre) B.notSynchronized (name_of_methodNamed B.named B.method).1 (fun q h => Or.inr h) s.heap hP hK (hD0.self (sz := s.heap.size)) va_S.rf _ (lv_entry av hlen)
def zI (b : Bool) : Int32 := if b = true then 1 else 0
theorem k_zn (b : Bool) : narrow .boolean (.int (zI b)) = .int (zI b) := by cases b <;> rfl
theorem k_zfit (b : Bool) : fits .boolean (.int (zI b)) = true := by cases b <;> rfl
theorem zI0 (b : Bool) : zI b = 0 ↔ b = false := by cases b <;> decide
section KZ
variable {p : Program} {l : Launch} {e : Env} {R : Room} {s : State} {m : MethodId} {args : Array Value} {below : List Frame} {meth : Method} {c : Code} {H : Heap} {locs : List Loc} {cells slots : Nat} {Q : State → Prop}
variable {cc : ByteArray} {pc : Nat} {ls : Array Slot} {rest : List Value} {off : Int} {tgt : Nat} {a : Nat} {b : Bool}
theorem k_zeq (hx : p.tables.exec = Jvm.exec) (hb : c.code = cc) (hdg : decode cc pc = .ok (.ifCond .eq off, 3)) (ht : (pc : Int) + off = (tgt : Int))
    (kt : b = false → W p l e R s m args below meth c H locs cells slots Q (F0 m tgt ls rest)) (kf : b = true → W p l e R s m args below meth c H locs cells slots Q (F0 m (pc + 3) ls rest)) : W p l e R s m args below meth c H locs cells slots Q (F0 m pc ls (.int (zI b) :: rest)) :=
  lv_if_eq hx hb hdg ht (fun h => kt ((zI0 b).mp h)) (fun h => kf (by cases b with | false => exact absurd rfl h | true => rfl))
theorem k_zne (hx : p.tables.exec = Jvm.exec) (hb : c.code = cc) (hdg : decode cc pc = .ok (.ifCond .ne off, 3)) (ht : (pc : Int) + off = (tgt : Int))
    (kt : b = true → W p l e R s m args below meth c H locs cells slots Q (F0 m tgt ls rest)) (kf : b = false → W p l e R s m args below meth c H locs cells slots Q (F0 m (pc + 3) ls rest)) : W p l e R s m args below meth c H locs cells slots Q (F0 m pc ls (.int (zI b) :: rest)) :=
  lv_if_ne hx hb hdg ht (fun h => kt (by cases b with | false => exact absurd rfl h | true => rfl)) (fun h => kf ((zI0 b).mp h))
theorem k_n0eq (hx : p.tables.exec = Jvm.exec) (hb : c.code = cc) (hdg : decode cc pc = .ok (.ifCond .eq off, 3)) (ht : (pc : Int) + off = (tgt : Int)) (ha : a < 2 ^ 31)
    (kt : a = 0 → W p l e R s m args below meth c H locs cells slots Q (F0 m tgt ls rest)) (kf : a ≠ 0 → W p l e R s m args below meth c H locs cells slots Q (F0 m (pc + 3) ls rest)) : W p l e R s m args below meth c H locs cells slots Q (F0 m pc ls (.int (nI a) :: rest)) :=
  lv_if_eq hx hb hdg ht (fun h => kt ((nI_eq ha (by decide)).mp (h.trans nI_0.symm))) (fun h => kf (fun z => h (by rw [z]; exact nI_0)))
theorem k_n0ne (hx : p.tables.exec = Jvm.exec) (hb : c.code = cc) (hdg : decode cc pc = .ok (.ifCond .ne off, 3)) (ht : (pc : Int) + off = (tgt : Int)) (ha : a < 2 ^ 31)
    (kt : a ≠ 0 → W p l e R s m args below meth c H locs cells slots Q (F0 m tgt ls rest)) (kf : a = 0 → W p l e R s m args below meth c H locs cells slots Q (F0 m (pc + 3) ls rest)) : W p l e R s m args below meth c H locs cells slots Q (F0 m pc ls (.int (nI a) :: rest)) :=
  lv_if_ne hx hb hdg ht (fun h => kt (fun z => h (by rw [z]; exact nI_0))) (fun h => kf ((nI_eq ha (by decide)).mp (h.trans nI_0.symm)))
end KZ
section KW
variable {R : Room} {s : State} {args : Array Value} {own C : String} {index maxL n : Nat} {y : MethodName} {bytes : ByteArray} {ret : Option FieldType} {rm : Room}
theorem k_cb (ht : ∀ w ∈ kT, w.before args s = true) (hc : Cond.code y bytes maxL ret ∈ kT) (hini : Cond.initialized y.cls ∈ kT) (hl : Cond.methodLink own index y ∈ kT) (hd : y.cls ≠ "java/lang/invoke/MethodHandle" ∧ y.cls ≠ "java/lang/invoke/VarHandle" ∧ (parseMethodDescriptor y.desc).map (fun d => d.parameters.length) = some n) (hR : rm.frames + 1 ≤ R.frames ∧ 8 + (maxL + 11) + rm.locals ≤ R.locals) : CallB R s args own index y bytes maxL ret (Cond.code y bytes maxL ret :: kT) rm rm.cells rm.slots n :=
  callB_of n ht (kT_good hc) rfl rfl rfl (ht _ hini) (ht _ hl) hd hR
theorem k_cw (ht : ∀ w ∈ kT, w.before args s = true) (hc : Cond.code y bytes maxL ret ∈ kT) (hini : Cond.initialized y.cls ∈ kT) (hl : Cond.methodLink own index y ∈ kT) (hin : Cond.instanceMethod y ∈ kT) (hse : Cond.selects C y y ∈ kT) (hd : y.cls ≠ "java/lang/invoke/MethodHandle" ∧ y.cls ≠ "java/lang/invoke/VarHandle" ∧ (parseMethodDescriptor y.desc).map (fun d => d.parameters.length) = some n) (hR : rm.frames + 1 ≤ R.frames ∧ 8 + (maxL + 11) + rm.locals ≤ R.locals) : CallW R s args own C index y bytes maxL ret (Cond.code y bytes maxL ret :: kT) rm rm.cells rm.slots n :=
  ⟨k_cb ht hc hini hl hd hR, ht _ hin, ht _ hse⟩
theorem k_cs (ht : ∀ w ∈ kT, w.before args s = true) (hc : Cond.code y bytes maxL ret ∈ kT) (hini : Cond.initialized y.cls ∈ kT) (hl : Cond.methodLink own index y ∈ kT) (hst : Cond.static y ∈ kT) (hd : y.cls ≠ "java/lang/invoke/MethodHandle" ∧ y.cls ≠ "java/lang/invoke/VarHandle" ∧ (parseMethodDescriptor y.desc).map (fun d => d.parameters.length) = some n) (hR : rm.frames + 1 ≤ R.frames ∧ 8 + (maxL + 11) + rm.locals ≤ R.locals) : CallB R s args own index y bytes maxL ret (Cond.code y bytes maxL ret :: kT) rm rm.cells rm.slots n ∧ (Cond.static y).before args s = true :=
  ⟨k_cb ht hc hini hl hd hR, ht _ hst⟩
theorem k_ci (ht : ∀ w ∈ kT, w.before args s = true) (hc : Cond.code y bytes maxL none ∈ kT) (hini : Cond.initialized y.cls ∈ kT) (hl : Cond.methodLink own index y ∈ kT) (hin : Cond.instanceMethod y ∈ kT) (hy : y.name = "<init>") (hd : y.cls ≠ "java/lang/invoke/MethodHandle" ∧ y.cls ≠ "java/lang/invoke/VarHandle" ∧ (parseMethodDescriptor y.desc).map (fun d => d.parameters.length) = some n) (hR : rm.frames + 1 ≤ R.frames ∧ 8 + (maxL + 11) + rm.locals ≤ R.locals) : CallB R s args own index y bytes maxL none (Cond.code y bytes maxL none :: kT) rm rm.cells rm.slots n ∧ y.name = "<init>" ∧ (Cond.instanceMethod y).before args s = true :=
  ⟨k_cb ht hc hini hl hd hR, hy, ht _ hin⟩
end KW
end
section
/-! What the class's own methods do, as functions (Int64 and Int32 as the machine has them). -/
def fdN (P : Nat → Bool) : Nat → Nat → Nat
  | 0, i => i
  | k + 1, i => if P i = true then i else fdN P k (i + 1)
theorem fdN_step {P : Nat → Bool} {n i : Nat} (h : i < n) : fdN P (n - i) i = if P i = true then i else fdN P (n - (i + 1)) (i + 1) := by
  have e : n - i = (n - (i + 1)) + 1 := by omega
  rw [e]; rfl
theorem fdN_hit {P : Nat → Bool} {n i : Nat} (h : i < n) (hp : P i = true) : fdN P (n - i) i = i := by
  rw [fdN_step h, if_pos hp]
theorem fdN_go {P : Nat → Bool} {n i : Nat} (h : i < n) (hp : P i = false) : fdN P (n - i) i = fdN P (n - (i + 1)) (i + 1) := by
  rw [fdN_step h, if_neg (by rw [hp]; exact Bool.false_ne_true)]
theorem fdN_end {P : Nat → Bool} {n i : Nat} (h : n ≤ i) : fdN P (n - i) i = i := by
  have e : n - i = 0 := by omega
  rw [e]; rfl
theorem fdN_spec (P : Nat → Bool) : ∀ k i, i ≤ fdN P k i ∧ fdN P k i ≤ i + k ∧ (∀ j, i ≤ j → j < fdN P k i → P j = false) ∧ (fdN P k i < i + k → P (fdN P k i) = true)
  | 0, i => ⟨Nat.le_refl _, Nat.le_refl _, fun j h1 h2 => absurd h2 (Nat.not_lt.mpr h1), fun h => absurd h (Nat.lt_irrefl _)⟩
  | k + 1, i => by
    unfold fdN
    by_cases hp : P i = true
    · rw [if_pos hp]
      exact ⟨Nat.le_refl _, by omega, fun j h1 h2 => absurd h2 (Nat.not_lt.mpr h1), fun _ => hp⟩
    · rw [if_neg hp]
      obtain ⟨h1, h2, h3, h4⟩ := fdN_spec P k (i + 1)
      refine ⟨by omega, by omega, fun j j1 j2 => ?_, fun h => h4 (by omega)⟩
      by_cases hj : j = i
      · subst hj
        cases hq : P j with
        | false => rfl
        | true => exact absurd hq hp
      · exact h3 j (by omega) j2
/-- the first place before n with P, or n -/
def fd (P : Nat → Bool) (n : Nat) : Nat := fdN P n 0
theorem fd_le (P : Nat → Bool) (n : Nat) : fd P n ≤ n := by have := (fdN_spec P n 0).2.1; unfold fd; omega
theorem fd_before {P : Nat → Bool} {n j : Nat} (h : j < fd P n) : P j = false := (fdN_spec P n 0).2.2.1 j (Nat.zero_le _) h
theorem fd_at {P : Nat → Bool} {n : Nat} (h : fd P n < n) : P (fd P n) = true := (fdN_spec P n 0).2.2.2 (by unfold fd at h; omega)
theorem fd_0 (P : Nat → Bool) (n : Nat) : fdN P (n - 0) 0 = fd P n := rfl
theorem fd_eq {P : Nat → Bool} {n i : Nat} (hi : i < n) (hp : P i = true) (hb : ∀ j, j < i → P j = false) : fd P n = i := by
  have h1 : ¬ i < fd P n := fun h => by rw [fd_before h] at hp; exact Bool.false_ne_true hp
  have h2 : ¬ fd P n < i := fun h => by
    have := fd_at (P := P) (n := n) (by omega)
    rw [hb _ h] at this
    exact Bool.false_ne_true this
  omega
theorem fd_n {P : Nat → Bool} {n : Nat} (hb : ∀ j, j < n → P j = false) : fd P n = n := by
  have h1 := fd_le P n
  have h2 : ¬ fd P n < n := fun h => by
    have := fd_at h
    rw [hb _ h] at this
    exact Bool.false_ne_true this
  omega
def inB (x a b : Int64) : Bool := decide (a ≤ x) && decide (x ≤ b)
def wpF (a b : Int64) : Int64 := if (inB b 1 10000 && inB a 0 b) = true then (if a * 10000 - a * 10000 / b * b = 0 then a * 10000 / b else -1) else -1
theorem inB_ne {b : Int64} (h : inB b 1 10000 = true) : ¬ b = 0 := by
  intro e
  subst e
  revert h
  decide
/-- Math.floorDiv -/
def fdiv (x y : Int64) : Int64 := if (x ^^^ y) < 0 ∧ ¬ x / y * y = x then x / y - 1 else x / y
/-- the separator's rows -/
def rowF (ra : Nat → Int64) (w : Int64) (n : Nat) : Nat := fd (fun j => decide (w ≤ ra j)) n
theorem rowF_le (ra : Nat → Int64) (w : Int64) (n : Nat) : rowF ra w n ≤ n := fd_le _ _
theorem rowF_before {ra : Nat → Int64} {w : Int64} {n j : Nat} (h : j < rowF ra w n) : ra j < w := by
  have := fd_before h
  exact Int64.not_le.mp (of_decide_eq_false this)
theorem rowF_at {ra : Nat → Int64} {w : Int64} {n : Nat} (h : rowF ra w n < n) : w ≤ ra (rowF ra w n) := of_decide_eq_true (fd_at (P := fun j => decide (w ≤ ra j)) h)
def btwF (ra rf : Nat → Int64) (a b : Nat) (w : Int64) : Int64 := rf a + fdiv ((rf b - rf a) * (w - ra a)) (ra b - ra a)
def skF (ra rf : Nat → Int64) (n : Nat) (w : Int64) : Int64 :=
  if n = 0 then 0 else if rowF ra w n = n then rf (n - 1) else if rowF ra w n = 0 ∨ ra (rowF ra w n) = w then rf (rowF ra w n) else btwF ra rf (rowF ra w n - 1) (rowF ra w n) w
/-- a row's places from i on, moved up by one as far as n -/
def shf (f : Nat → Int64) (i n : Nat) : Nat → Int64 := fun j => if i < j ∧ j ≤ n then f (j - 1) else f j
theorem shf_n (f : Nat → Int64) (n : Nat) : shf f n n = f := by
  funext j; unfold shf; rw [if_neg (by omega)]
theorem shf_step (f : Nat → Int64) {i n : Nat} (h : 0 < i) (hn : i ≤ n) : vp_updL (shf f i n) i (shf f i n (i - 1)) = shf f (i - 1) n := by
  funext j
  unfold vp_updL shf
  by_cases hj : j = i
  · subst hj
    rw [if_pos rfl, if_neg (by omega), if_pos (by omega)]
  · rw [if_neg hj]
    by_cases h1 : i < j ∧ j ≤ n
    · rw [if_pos h1, if_pos (by omega)]
    · rw [if_neg h1, if_neg (by omega)]
def putA (ra : Nat → Int64) (n : Nat) (w : Int64) : Nat → Int64 :=
  if rowF ra w n < n ∧ ra (rowF ra w n) = w then ra else if 20 ≤ n then ra else vp_updL (shf ra (rowF ra w n) n) (rowF ra w n) w
def putF (ra rf : Nat → Int64) (n : Nat) (w f : Int64) : Nat → Int64 :=
  if rowF ra w n < n ∧ ra (rowF ra w n) = w then vp_updL rf (rowF ra w n) f else if 20 ≤ n then rf else vp_updL (shf rf (rowF ra w n) n) (rowF ra w n) f
def putN (ra : Nat → Int64) (n : Nat) (w : Int64) : Nat := if rowF ra w n < n ∧ ra (rowF ra w n) = w then n else if 20 ≤ n then n else n + 1
def putB (ra : Nat → Int64) (n : Nat) (w : Int64) : Bool := if rowF ra w n < n ∧ ra (rowF ra w n) = w then true else if 20 ≤ n then false else true
/-- the mixture: its trial, what the trial's numbers are over, the best, what that is over, whether it is met -/
abbrev MixS : Type := (Nat → Int64) × Int64 × (Nat → Int64) × Int64 × Bool
def prodF (mf ms : Nat → Int64) (i j k : Nat) : Int64 := (mf j - mf i) * (mf k - mf i) + (ms j - ms i) * (ms k - ms i)
def areaF (mf ms : Nat → Int64) (i j k : Nat) : Int64 := (mf j - mf i) * (ms k - ms i) - (mf k - mf i) * (ms j - ms i)
def zer (i : Nat) (f : Nat → Int64) : Nat → Int64 := fun j => if j < i then 0 else f j
theorem zer_0 (f : Nat → Int64) : zer 0 f = f := by funext j; unfold zer; rw [if_neg (by omega)]
theorem zer_step (f : Nat → Int64) (i : Nat) : vp_updL (zer i f) i 0 = zer (i + 1) f := by
  funext j
  unfold vp_updL zer
  by_cases hj : j = i
  · rw [if_pos hj, if_pos (by omega)]
  · rw [if_neg hj]
    by_cases h1 : j < i
    · rw [if_pos h1, if_pos (by omega)]
    · rw [if_neg h1, if_neg (by omega)]
def cpy (i : Nat) (f g : Nat → Int64) : Nat → Int64 := fun j => if j < i then f j else g j
theorem cpy_0 (f g : Nat → Int64) : cpy 0 f g = g := by funext j; unfold cpy; rw [if_neg (by omega)]
theorem cpy_step (f g : Nat → Int64) (i : Nat) : vp_updL (cpy i f g) i (f i) = cpy (i + 1) f g := by
  funext j
  unfold vp_updL cpy
  by_cases hj : j = i
  · rw [if_pos hj, if_pos (by omega), hj]
  · rw [if_neg hj]
    by_cases h1 : j < i
    · rw [if_pos h1, if_pos (by omega)]
    · rw [if_neg h1, if_neg (by omega)]
def posB (f : Nat → Int64) (n : Nat) : Bool := decide (fd (fun j => decide (f j < 0)) n = n)
def dfN (f : Nat → Int64) (b : Int64) (g : Nat → Int64) (d : Int64) (n : Nat) : Nat := fd (fun j => decide (¬ f j * d = g j * b)) n
def btB (f : Nat → Int64) (b : Int64) (g : Nat → Int64) (d : Int64) (n : Nat) : Bool := decide (dfN f b g d n < n) && decide (g (dfN f b g d n) * b < f (dfN f b g d n) * d)
def keepB (n : Nat) (u : MixS) : Bool := posB u.1 n && (!u.2.2.2.2 || btB u.1 u.2.1 u.2.2.1 u.2.2.2.1 n)
def keepF (n : Nat) (u : MixS) : MixS := if keepB n u = true then (u.1, u.2.1, cpy 4 u.1 u.2.2.1, u.2.1, true) else u
def stF (u : MixS) (x : Int64) : MixS := (zer 4 u.1, x, u.2.2)
def st1 (u : MixS) (i : Nat) (x : Int64) : MixS := (vp_updL u.1 i x, u.2)
def t1F (mf ms : Nat → Int64) (n i : Nat) (u : MixS) : MixS :=
  if mf i = mf 4 ∧ ms i = ms 4 then keepF n (st1 (stF u 1) i 1) else u
def t2F (mf ms : Nat → Int64) (n i j : Nat) (u : MixS) : MixS :=
  if prodF mf ms i j j = 0 ∨ ¬ areaF mf ms i j 4 = 0 then u
  else keepF n (st1 (st1 (stF u (prodF mf ms i j j)) j (prodF mf ms i j 4)) i (prodF mf ms i j j - (st1 (stF u (prodF mf ms i j j)) j (prodF mf ms i j 4)).1 j))
def sgF (x : Int64) : Int64 := if x < 0 then -1 else 1
def t3F (mf ms : Nat → Int64) (n i j k : Nat) (u : MixS) : MixS :=
  if areaF mf ms i j k = 0 then u
  else keepF n (st1 (st1 (st1 (stF u (sgF (areaF mf ms i j k) * areaF mf ms i j k)) i (sgF (areaF mf ms i j k) * areaF mf ms 4 j k)) j (sgF (areaF mf ms i j k) * areaF mf ms i 4 k)) k (sgF (areaF mf ms i j k) * areaF mf ms i j 4))
/-- the loops of the search: k from k0 on, then j from j0 on, then i from i0 on; d is what is left to do -/
def s3F (mf ms : Nat → Int64) (n i j : Nat) : Nat → Nat → MixS → MixS
  | 0, _, u => u
  | d + 1, k, u => s3F mf ms n i j d (k + 1) (t3F mf ms n i j k u)
def s2F (mf ms : Nat → Int64) (n i : Nat) : Nat → Nat → MixS → MixS
  | 0, _, u => u
  | d + 1, j, u => s2F mf ms n i d (j + 1) (s3F mf ms n i j (n - (j + 1)) (j + 1) (t2F mf ms n i j u))
def s1F (mf ms : Nat → Int64) (n : Nat) : Nat → Nat → MixS → MixS
  | 0, _, u => u
  | d + 1, i, u => s1F mf ms n d (i + 1) (s2F mf ms n i (n - (i + 1)) (i + 1) (t1F mf ms n i u))
def fgF (u : MixS) : MixS := (u.1, u.2.1, u.2.2.1, u.2.2.2.1, false)
def abF (ml : Nat → Int32) (n : Nat) (mb : Nat → Int64) (x : Int32) : Int64 := if fd (fun j => decide (ml j = x)) n < n then mb (fd (fun j => decide (ml j = x)) n) else 0
theorem s3F_end {mf ms : Nat → Int64} {n i j k : Nat} {u : MixS} (h : n ≤ k) : s3F mf ms n i j (n - k) k u = u := by
  rw [show n - k = 0 by omega]; rfl
theorem s3F_go {mf ms : Nat → Int64} {n i j k : Nat} {u : MixS} (h : k < n) : s3F mf ms n i j (n - k) k u = s3F mf ms n i j (n - (k + 1)) (k + 1) (t3F mf ms n i j k u) := by
  rw [show n - k = (n - (k + 1)) + 1 by omega]; rfl
theorem s2F_end {mf ms : Nat → Int64} {n i j : Nat} {u : MixS} (h : n ≤ j) : s2F mf ms n i (n - j) j u = u := by
  rw [show n - j = 0 by omega]; rfl
theorem s2F_go {mf ms : Nat → Int64} {n i j : Nat} {u : MixS} (h : j < n) : s2F mf ms n i (n - j) j u = s2F mf ms n i (n - (j + 1)) (j + 1) (s3F mf ms n i j (n - (j + 1)) (j + 1) (t2F mf ms n i j u)) := by
  rw [show n - j = (n - (j + 1)) + 1 by omega]; rfl
theorem s1F_end {mf ms : Nat → Int64} {n i : Nat} {u : MixS} (h : n ≤ i) : s1F mf ms n (n - i) i u = u := by
  rw [show n - i = 0 by omega]; rfl
theorem s1F_go {mf ms : Nat → Int64} {n i : Nat} {u : MixS} (h : i < n) : s1F mf ms n (n - i) i u = s1F mf ms n (n - (i + 1)) (i + 1) (s2F mf ms n i (n - (i + 1)) (i + 1) (t1F mf ms n i u)) := by
  rw [show n - i = (n - (i + 1)) + 1 by omega]; rfl
theorem l_sub0 {a b : Int64} (h : a - b = 0) : a = b := by
  have := congrArg (· + b) h
  simpa using this
theorem sk_ne {ra : Nat → Int64} {w : Int64} {n : Nat} (h0 : 0 < rowF ra w n) (hl : rowF ra w n < n) : ¬ ra (rowF ra w n) - ra (rowF ra w n - 1) = 0 := by
  intro h
  have e := l_sub0 h
  have h1 : ra (rowF ra w n - 1) < w := rowF_before (n := n) (by omega)
  have h2 := rowF_at hl
  rw [e] at h2
  exact absurd h1 (Int64.not_lt.mpr h2)
end
section
/-! Numbers: Euclid with a count, maxima, ranges. -/
theorem lN_0 : lN 0 = 0 := rfl
theorem q_pos {q : Nat} (h : ¬ lN q = 0) : 0 < q := by
  rcases Nat.eq_zero_or_pos q with e | e
  · exact absurd (by rw [e]; rfl) h
  · exact e
theorem q_zero {q : Nat} (hq : q < 2 ^ 63) (h : lN q = 0) : q = 0 := (pk_lEQ hq (by decide)).mp (h.trans lN_0.symm)
theorem cd_mx {p : Nat} (hp : p < 2 ^ 63) : (if lN p < 1 then (1 : Int64) else lN p) = lN (max 1 p) := by
  have key : (lN p < (1 : Int64)) ↔ p < 1 := pk_lLT (b := 1) hp (by decide)
  by_cases h : p < 1
  · rw [if_pos (key.mpr h), Nat.max_eq_left (by omega)]; rfl
  · rw [if_neg (fun z => h (key.mp z)), Nat.max_eq_right (by omega)]
theorem cd_end {p q g : Nat} (hp : p < 2 ^ 63) (hg : Nat.gcd p q = g) (hq : q = 0) : (if lN p < 1 then (1 : Int64) else lN p) = lN (max 1 g) := by
  subst hq
  rw [Nat.gcd_zero_right] at hg
  subst hg
  exact cd_mx hp
/-- what is left of Euclid's steps after st of 100 -/
def cdI (p q st : Nat) : Prop := q < 2 ^ ((101 - st) / 2) ∨ (q < p ∧ p < 2 ^ ((102 - st) / 2))
theorem cdI_q {p q st : Nat} (h : cdI p q st) (hs : 100 ≤ st) : q = 0 := by
  rcases h with h | ⟨h1, h2⟩
  · rw [show (101 - st) / 2 = 0 by omega] at h
    omega
  · have e : 2 ^ ((102 - st) / 2) ≤ 2 ^ 1 := Nat.pow_le_pow_right (by decide) (by omega)
    omega
theorem cdI_step {p q st : Nat} (h : cdI p q st) (hq : 0 < q) (hs : st < 100) : cdI q (p % q) (st + 1) := by
  have hm := Nat.mod_lt p hq
  rcases h with h | ⟨h1, h2⟩
  · refine Or.inr ⟨hm, ?_⟩
    rw [show (102 - (st + 1)) / 2 = (101 - st) / 2 by omega]
    exact h
  · by_cases hb : q < 2 ^ ((101 - st) / 2)
    · refine Or.inr ⟨hm, ?_⟩
      rw [show (102 - (st + 1)) / 2 = (101 - st) / 2 by omega]
      exact hb
    · refine Or.inl ?_
      have hd : p % q ≤ p - q := by
        rw [Nat.mod_eq_sub_mod (Nat.le_of_lt h1)]
        exact Nat.mod_le _ _
      have e1 : 2 ^ ((102 - st) / 2) = 2 * 2 ^ ((100 - st) / 2) := by
        rw [show (102 - st) / 2 = (100 - st) / 2 + 1 by omega, Nat.pow_succ]
        omega
      have e2 : 2 ^ ((100 - st) / 2) ≤ 2 ^ ((101 - st) / 2) := Nat.pow_le_pow_right (by decide) (by omega)
      rw [show (101 - (st + 1)) / 2 = (100 - st) / 2 by omega]
      omega
theorem cdI_0 {p q : Nat} (h : q < 2 ^ 50) : cdI p q 0 := Or.inl h
theorem gcd_step (p q : Nat) : Nat.gcd q (p % q) = Nat.gcd p q := by
  rw [Nat.gcd_comm p q, Nat.gcd_rec q p, Nat.gcd_comm]
theorem lN_nz {q : Nat} (h0 : 0 < q) (hq : q < 2 ^ 63) : ¬ lN q = 0 := fun h => by
  have := q_zero hq h
  omega
def lotB (n : Nat) (x : Int32) : Bool := !decide (x < 0) && !decide (nI n ≤ x)
theorem lotB_nat {n : Nat} {x : Int32} (hn : n < 2 ^ 31) (h : lotB n x = true) : ∃ j : Nat, j < n ∧ x = nI j := by
  unfold lotB at h
  simp only [Bool.and_eq_true, Bool.not_eq_true', decide_eq_false_iff_not] at h
  rcases pk_ix x hn with a | a | a
  · exact absurd a h.1
  · exact absurd a h.2
  · exact a
theorem lotB_nI {n j : Nat} (hn : n < 2 ^ 31) (hj : j < 2 ^ 31) : lotB n (nI j) = decide (j < n) := by
  unfold lotB
  rw [decide_eq_false (nI_pos hj)]
  by_cases h : j < n
  · rw [decide_eq_false (nI_ge h hn), decide_eq_true h]; rfl
  · rw [decide_eq_true (nI_le (by omega) hj), decide_eq_false h]; rfl
def unB (n : Nat) (sp : Nat → Int32) (x : Int32) : Bool := lotB n x && decide (sp x.toNatClampNeg = 0)
theorem unB_nat {n : Nat} {sp : Nat → Int32} {x : Int32} (hn : n < 2 ^ 31) (h : unB n sp x = true) : ∃ j : Nat, j < n ∧ x = nI j ∧ sp j = 0 := by
  unfold unB at h
  rw [Bool.and_eq_true] at h
  obtain ⟨j, hj, rfl⟩ := lotB_nat hn h.1
  have h2 := of_decide_eq_true h.2
  rw [nI_clamp (by omega)] at h2
  exact ⟨j, hj, rfl, h2⟩
def rpF (a b : Nat) (part : Int32) : Int64 := if part = 0 then lN (a / max 1 (Nat.gcd a b)) else lN (b / max 1 (Nat.gcd a b))
def ybF (k : Nat) : Int64 := if k = 0 then 63000000 else if k = 1 then 8200 else 9700
def yaF (kg ft so : Int64) (k : Nat) : Int64 := if k = 0 then kg * (93 * ft + 75 * so) * 109 else if k = 1 then kg * ft else kg * (ft + so)
end
section
/-- Math.floorDiv of two longs -/
abbrev q_FD (dC : Nat → ClassId) (dI : Nat → Nat → Nat) (cJ cI cZ : ClassId) (x : Int64) (y : Int64) (A : Nat → Prop) : Array Value → State → Outcome → State → Prop := va_Ql (fun (r : Int64) (_ : Unit) => r = fdiv x y) (kB (dC, dI) vwCl [(cJ, .long), (cI, .int), (cZ, .boolean)] A (fun (_ : Unit) => [])) A
set_option maxHeartbeats 4000000 in
set_option maxRecDepth 100000 in
theorem k_FD (l : Launch) (dC : Nat → ClassId) (dI : Nat → Nat → Nat) (cJ cI cZ : ClassId) (sz : Nat) (x : Int64) (y : Int64) (hy : ¬ y = 0) : Met l y_J_floorDiv w_J_floorDiv { frames := 0, cells := 0, slots := 0, locals := 0 } (kPc (dC, dI) vwCl [(cJ, .long), (cI, .int), (cZ, .boolean)] [] sz [.long x, .long y]) (q_FD dC dI cJ cI cZ x y (va_A [] sz)) 0 0 (va_A [] sz) := by
  refine k_met (q_FD dC dI cJ cI cZ x y) (by decide +kernel) rfl (Nat.le_of_ble_eq_true rfl) ?_
  intro p e s m below meth c A hx hb hr hml hown hts hlocks hin hA H hP hK hD hS ls hl
  have hl : lv_has ls 6 [(0, .long x), (2, .long y)] := hl
  have hown : s.vm.findClass R_J = some m.cls := hown
  have hts : ∀ wW ∈ kT, wW.before [.long x, .long y].toArray s = true := fun wW hW => hts wW (List.mem_cons_of_mem _ hW)
  refine lv_lload_n hx hb d_J_floorDiv_0 rfl (lv_at hl 0 rfl) ?_
  refine lv_lload_n hx hb d_J_floorDiv_1 rfl (lv_at hl 1 rfl) ?_
  refine lv_ldiv hx hb d_J_floorDiv_2 hy ?_
  refine lv_lstore (lv' := [(4, .long (x / y)), (0, .long x), (2, .long y)]) hx hb d_J_floorDiv_3 hl (by decide) rfl (fun ls hl => ?_)
  refine lv_lload_n hx hb d_J_floorDiv_5 rfl (lv_at hl 1 rfl) ?_
  refine lv_lload_n hx hb d_J_floorDiv_6 rfl (lv_at hl 2 rfl) ?_
  refine lv_lxor hx hb d_J_floorDiv_7 ?_
  refine lv_lconst (v := 0) hx hb d_J_floorDiv_8 (by decide) ?_
  refine k_jge (tgt := 27) hx hb d_J_floorDiv_9 d_J_floorDiv_10 (by decide) (fun c_9 => ?_) (fun c_9 => ?_)
  · refine lv_lload hx hb d_J_floorDiv_27 (lv_at hl 0 rfl) ?_
    exact k_lret (v := x / y) hx hb hr hlocks () (by first | (unfold fdiv; rw [if_neg (fun h => absurd h.1 (Int64.not_lt.mpr c_9))]; done) | (unfold fdiv; rw [if_neg (fun h => h.2 c_18)]; done)) hP hD hK hS [] (by decide) rfl d_J_floorDiv_29
  · refine lv_lload hx hb d_J_floorDiv_13 (lv_at hl 0 rfl) ?_
    refine lv_lload_n hx hb d_J_floorDiv_15 rfl (lv_at hl 2 rfl) ?_
    refine lv_lmul hx hb d_J_floorDiv_16 ?_
    refine lv_lload_n hx hb d_J_floorDiv_17 rfl (lv_at hl 1 rfl) ?_
    refine k_jeq (tgt := 27) hx hb d_J_floorDiv_18 d_J_floorDiv_19 (by decide) (fun c_18 => ?_) (fun c_18 => ?_)
    · refine lv_lload hx hb d_J_floorDiv_27 (lv_at hl 0 rfl) ?_
      exact k_lret (v := x / y) hx hb hr hlocks () (by first | (unfold fdiv; rw [if_neg (fun h => absurd h.1 (Int64.not_lt.mpr c_9))]; done) | (unfold fdiv; rw [if_neg (fun h => h.2 c_18)]; done)) hP hD hK hS [] (by decide) rfl d_J_floorDiv_29
    · refine lv_lload hx hb d_J_floorDiv_22 (lv_at hl 0 rfl) ?_
      refine lv_lconst (v := 1) hx hb d_J_floorDiv_24 (by decide) ?_
      refine lv_lsub hx hb d_J_floorDiv_25 ?_
      exact k_lret (v := (x / y) - 1) hx hb hr hlocks () (by unfold fdiv; rw [if_pos ⟨c_9, c_18⟩]) hP hD hK hS [] (by decide) rfl d_J_floorDiv_26
/-- the first row that is not before w -/
abbrev q_S_firstNotBefore (dC : Nat → ClassId) (dI : Nat → Nat → Nat) (cJ cI cZ : ClassId) (h : Nat) (a1 : Nat) (a2 : Nat) (ra : Nat → Int64) (rf : Nat → Int64) (n : Nat) (w : Int64) (A : Nat → Prop) : Array Value → State → Outcome → State → Prop := va_Qi (fun (r : Int32) (_ : Unit) => r = nI (rowF ra w n)) (kB (dC, dI) vwCl [(cJ, .long), (cI, .int), (cZ, .boolean)] A (fun (_ : Unit) => [(h, .inr (2, [.ref a1, .ref a2, .int (nI n)])), (a1, .inl (cJ, 20, .inr (.inl ra))), (a2, .inl (cJ, 20, .inr (.inl rf)))])) A
set_option maxHeartbeats 4000000 in
set_option maxRecDepth 100000 in
theorem k_S_firstNotBefore (l : Launch) (dC : Nat → ClassId) (dI : Nat → Nat → Nat) (cJ cI cZ : ClassId) (sz : Nat) (h : Nat) (a1 : Nat) (a2 : Nat) (ra : Nat → Int64) (rf : Nat → Int64) (n : Nat) (w : Int64) (hn : n ≤ 20) : Met l y_S_firstNotBefore w_S_firstNotBefore { frames := 0, cells := 0, slots := 0, locals := 0 } (kPc (dC, dI) vwCl [(cJ, .long), (cI, .int), (cZ, .boolean)] [(h, .inr (2, [.ref a1, .ref a2, .int (nI n)])), (a1, .inl (cJ, 20, .inr (.inl ra))), (a2, .inl (cJ, 20, .inr (.inl rf)))] sz [.ref h, .long w]) (q_S_firstNotBefore dC dI cJ cI cZ h a1 a2 ra rf n w (va_A [(h, .inr (2, [.ref a1, .ref a2, .int (nI n)])), (a1, .inl (cJ, 20, .inr (.inl ra))), (a2, .inl (cJ, 20, .inr (.inl rf)))] sz)) 0 0 (va_A [(h, .inr (2, [.ref a1, .ref a2, .int (nI n)])), (a1, .inl (cJ, 20, .inr (.inl ra))), (a2, .inl (cJ, 20, .inr (.inl rf)))] sz) := by
  refine k_met (q_S_firstNotBefore dC dI cJ cI cZ h a1 a2 ra rf n w) (by decide +kernel) rfl (Nat.le_of_ble_eq_true rfl) ?_
  intro p e s m below meth c A hx hb hr hml hown hts hlocks hin hA H hP hK hD hS ls hl
  have hl : lv_has ls 4 [(0, .ref h), (1, .long w)] := hl
  have hown : s.vm.findClass R_S = some m.cls := hown
  have hts : ∀ wW ∈ kT, wW.before [.ref h, .long w].toArray s = true := fun wW hW => hts wW (List.mem_cons_of_mem _ hW)
  refine lv_iconst (v := nI 0) hx hb d_S_firstNotBefore_0 (by decide) ?_
  refine lv_istore_n (lv' := [(3, .int (nI 0)), (0, .ref h), (1, .long w)]) hx hb d_S_firstNotBefore_1 rfl hl (by decide) rfl (fun ls hl => ?_)
  have loop_2 : ∀ (fu_2 : Nat) (i : Nat) (hi : i ≤ n) (hv : fdN (fun j => decide (w ≤ ra j)) (n - i) i = rowF ra w n) (hfu_2 : n + 1 ≤ i + fu_2) (H : Heap) (locs : List Loc) (ls : Array Slot), va_P (dC, dI) vwCl [(h, .inr (2, [.ref a1, .ref a2, .int (nI n)])), (a1, .inl (cJ, 20, .inr (.inl ra))), (a2, .inl (cJ, 20, .inr (.inl rf)))] H → va_D A [(h, .inr (2, [.ref a1, .ref a2, .int (nI n)])), (a1, .inl (cJ, 20, .inr (.inl ra))), (a2, .inl (cJ, 20, .inr (.inl rf)))] → va_S A s.heap H locs → lv_has ls 4 [(0, .ref h), (1, .long w), (3, .int (nI i))] → W p l e { frames := 0, cells := 0, slots := 0, locals := 0 } s m [.ref h, .long w].toArray below meth c H locs 0 0 (MQ below (q_S_firstNotBefore dC dI cJ cI cZ h a1 a2 ra rf n w A) [.ref h, .long w].toArray s 0 0 A) (F0 m 2 ls []) := by
    intro fu_2
    induction fu_2 with
    | zero =>
      intro i hi hv hfu_2 H locs ls hP hD hS hl
      exact absurd hfu_2 (by omega)
    | succ fu_2 ih_2 =>
      intro i hi hv hfu_2 H locs ls hP hD hS hl
      refine lv_iload_n hx hb d_S_firstNotBefore_2 rfl (lv_at hl 2 rfl) ?_
      refine lv_aload_n hx hb d_S_firstNotBefore_3 rfl (lv_at hl 0 rfl) ?_
      refine va_get (D := (dC, dI)) (ci := 2) (v := .int (nI n)) (C := R_S) (T := T_S) (N := 3) hx hb hts iT_S hown hK hP 0 rfl rfl 2 (by decide) (hts _ wd_33) (fun _ h9 => h9) rfl d_S_firstNotBefore_4 ?_
      refine k_nge (tgt := 29) hx hb d_S_firstNotBefore_7 (by decide) (by omega) (by omega) (fun c_7 => ?_) (fun c_7 => ?_)
      · refine lv_aload_n hx hb d_S_firstNotBefore_29 rfl (lv_at hl 0 rfl) ?_
        refine va_get (D := (dC, dI)) (ci := 2) (v := .int (nI n)) (C := R_S) (T := T_S) (N := 3) hx hb hts iT_S hown hK hP 0 rfl rfl 2 (by decide) (hts _ wd_33) (fun _ h9 => h9) rfl d_S_firstNotBefore_30 ?_
        exact k_iret (v := nI n) hx hb hr hlocks () (by rw [← hv, fdN_end (P := fun j => decide (w ≤ ra j)) c_7]; exact congrArg nI (by omega)) hP hD hK hS [0, 1, 2] (by decide) rfl d_S_firstNotBefore_33
      · refine lv_aload_n hx hb d_S_firstNotBefore_10 rfl (lv_at hl 0 rfl) ?_
        refine va_get (D := (dC, dI)) (ci := 2) (v := .ref a1) (C := R_S) (T := T_S) (N := 3) hx hb hts iT_S hown hK hP 0 rfl rfl 0 (by decide) (hts _ wd_31) (fun _ h9 => h9) rfl d_S_firstNotBefore_11 ?_
        refine lv_iload_n hx hb d_S_firstNotBefore_14 rfl (lv_at hl 2 rfl) ?_
        refine k_lald (j := i) hx hb hK hP 1 0 rfl rfl (by omega) (by decide) d_S_firstNotBefore_15 ?_
        refine lv_lload_n hx hb d_S_firstNotBefore_16 rfl (lv_at hl 1 rfl) ?_
        refine k_jlt (tgt := 23) hx hb d_S_firstNotBefore_17 d_S_firstNotBefore_18 (by decide) (fun c_17 => ?_) (fun c_17 => ?_)
        · refine lv_iinc (v := nI (i + 1)) (lv' := [(3, .int (nI (i + 1))), (0, .ref h), (1, .long w)]) hx hb d_S_firstNotBefore_23 hl (k := 2) rfl (nI_add i 1) (by decide) rfl (fun ls hl => ?_)
          refine lv_goto (tgt := 2) hx hb d_S_firstNotBefore_26 (by decide) ?_
          exact ih_2 (i + 1) (by omega) ((fdN_go (P := fun j => decide (w ≤ ra j)) c_7 (decide_eq_false (Int64.not_le.mpr c_17))).symm.trans hv) (by omega) _ _ _ hP hD hS (lv_sub hl [1, 2, 0] rfl)
        · refine lv_iload_n hx hb d_S_firstNotBefore_21 rfl (lv_at hl 2 rfl) ?_
          exact k_iret (v := nI i) hx hb hr hlocks () (by rw [← hv, fdN_hit (P := fun j => decide (w ≤ ra j)) c_7 (decide_eq_true c_17)]) hP hD hK hS [0, 1, 2] (by decide) rfl d_S_firstNotBefore_22
  exact loop_2 (n + 1) 0 (by omega) rfl (by omega) _ _ _ hP hD hS (lv_sub hl [1, 2, 0] rfl)
/-- between two rows -/
abbrev q_S_between (dC : Nat → ClassId) (dI : Nat → Nat → Nat) (cJ cI cZ : ClassId) (h : Nat) (a1 : Nat) (a2 : Nat) (ra : Nat → Int64) (rf : Nat → Int64) (n : Nat) (a : Nat) (b : Nat) (w : Int64) (A : Nat → Prop) : Array Value → State → Outcome → State → Prop := va_Ql (fun (r : Int64) (_ : Unit) => r = btwF ra rf a b w) (kB (dC, dI) vwCl [(cJ, .long), (cI, .int), (cZ, .boolean)] A (fun (_ : Unit) => [(h, .inr (2, [.ref a1, .ref a2, .int (nI n)])), (a1, .inl (cJ, 20, .inr (.inl ra))), (a2, .inl (cJ, 20, .inr (.inl rf)))])) A
set_option maxHeartbeats 4000000 in
set_option maxRecDepth 100000 in
theorem k_S_between (l : Launch) (dC : Nat → ClassId) (dI : Nat → Nat → Nat) (cJ cI cZ : ClassId) (sz : Nat) (h : Nat) (a1 : Nat) (a2 : Nat) (ra : Nat → Int64) (rf : Nat → Int64) (n : Nat) (a : Nat) (b : Nat) (w : Int64) (hn : n ≤ 20) (ha : a < 20) (hb9 : b < 20) (hne : ¬ ra b - ra a = 0) : Met l y_S_between w_S_between { frames := 1, cells := 0, slots := 0, locals := 25 } (kPc (dC, dI) vwCl [(cJ, .long), (cI, .int), (cZ, .boolean)] [(h, .inr (2, [.ref a1, .ref a2, .int (nI n)])), (a1, .inl (cJ, 20, .inr (.inl ra))), (a2, .inl (cJ, 20, .inr (.inl rf)))] sz [.ref h, .int (nI a), .int (nI b), .long w]) (q_S_between dC dI cJ cI cZ h a1 a2 ra rf n a b w (va_A [(h, .inr (2, [.ref a1, .ref a2, .int (nI n)])), (a1, .inl (cJ, 20, .inr (.inl ra))), (a2, .inl (cJ, 20, .inr (.inl rf)))] sz)) 0 0 (va_A [(h, .inr (2, [.ref a1, .ref a2, .int (nI n)])), (a1, .inl (cJ, 20, .inr (.inl ra))), (a2, .inl (cJ, 20, .inr (.inl rf)))] sz) := by
  refine k_met (q_S_between dC dI cJ cI cZ h a1 a2 ra rf n a b w) (by decide +kernel) rfl (Nat.le_of_ble_eq_true rfl) ?_
  intro p e s m below meth c A hx hb hr hml hown hts hlocks hin hA H hP hK hD hS ls hl
  have hl : lv_has ls 7 [(0, .ref h), (1, .int (nI a)), (2, .int (nI b)), (3, .long w)] := hl
  have hown : s.vm.findClass R_S = some m.cls := hown
  have hts : ∀ wW ∈ kT, wW.before [.ref h, .int (nI a), .int (nI b), .long w].toArray s = true := fun wW hW => hts wW (List.mem_cons_of_mem _ hW)
  refine lv_aload_n hx hb d_S_between_0 rfl (lv_at hl 0 rfl) ?_
  refine va_get (D := (dC, dI)) (ci := 2) (v := .ref a2) (C := R_S) (T := T_S) (N := 3) hx hb hts iT_S hown hK hP 0 rfl rfl 1 (by decide) (hts _ wd_32) (fun _ h9 => h9) rfl d_S_between_1 ?_
  refine lv_iload_n hx hb d_S_between_4 rfl (lv_at hl 2 rfl) ?_
  refine k_lald (j := b) hx hb hK hP 2 0 rfl rfl (by omega) (by decide) d_S_between_5 ?_
  refine lv_aload_n hx hb d_S_between_6 rfl (lv_at hl 0 rfl) ?_
  refine va_get (D := (dC, dI)) (ci := 2) (v := .ref a2) (C := R_S) (T := T_S) (N := 3) hx hb hts iT_S hown hK hP 0 rfl rfl 1 (by decide) (hts _ wd_32) (fun _ h9 => h9) rfl d_S_between_7 ?_
  refine lv_iload_n hx hb d_S_between_10 rfl (lv_at hl 1 rfl) ?_
  refine k_lald (j := a) hx hb hK hP 2 0 rfl rfl (by omega) (by decide) d_S_between_11 ?_
  refine lv_lsub hx hb d_S_between_12 ?_
  refine lv_lload_n hx hb d_S_between_13 rfl (lv_at hl 3 rfl) ?_
  refine lv_aload_n hx hb d_S_between_14 rfl (lv_at hl 0 rfl) ?_
  refine va_get (D := (dC, dI)) (ci := 2) (v := .ref a1) (C := R_S) (T := T_S) (N := 3) hx hb hts iT_S hown hK hP 0 rfl rfl 0 (by decide) (hts _ wd_31) (fun _ h9 => h9) rfl d_S_between_15 ?_
  refine lv_iload_n hx hb d_S_between_18 rfl (lv_at hl 1 rfl) ?_
  refine k_lald (j := a) hx hb hK hP 1 0 rfl rfl (by omega) (by decide) d_S_between_19 ?_
  refine lv_lsub hx hb d_S_between_20 ?_
  refine lv_lmul hx hb d_S_between_21 ?_
  refine lv_lstore (lv' := [(5, .long (((rf b) - (rf a)) * (w - (ra a)))), (0, .ref h), (1, .int (nI a)), (2, .int (nI b)), (3, .long w)]) hx hb d_S_between_22 hl (by decide) rfl (fun ls hl => ?_)
  refine lv_aload_n hx hb d_S_between_24 rfl (lv_at hl 1 rfl) ?_
  refine va_get (D := (dC, dI)) (ci := 2) (v := .ref a2) (C := R_S) (T := T_S) (N := 3) hx hb hts iT_S hown hK hP 0 rfl rfl 1 (by decide) (hts _ wd_32) (fun _ h9 => h9) rfl d_S_between_25 ?_
  refine lv_iload_n hx hb d_S_between_28 rfl (lv_at hl 2 rfl) ?_
  refine k_lald (j := a) hx hb hK hP 2 0 rfl rfl (by omega) (by decide) d_S_between_29 ?_
  refine lv_lload hx hb d_S_between_30 (lv_at hl 0 rfl) ?_
  refine lv_aload_n hx hb d_S_between_32 rfl (lv_at hl 1 rfl) ?_
  refine va_get (D := (dC, dI)) (ci := 2) (v := .ref a1) (C := R_S) (T := T_S) (N := 3) hx hb hts iT_S hown hK hP 0 rfl rfl 0 (by decide) (hts _ wd_31) (fun _ h9 => h9) rfl d_S_between_33 ?_
  refine lv_iload_n hx hb d_S_between_36 rfl (lv_at hl 3 rfl) ?_
  refine k_lald (j := b) hx hb hK hP 1 0 rfl rfl (by omega) (by decide) d_S_between_37 ?_
  refine lv_aload_n hx hb d_S_between_38 rfl (lv_at hl 1 rfl) ?_
  refine va_get (D := (dC, dI)) (ci := 2) (v := .ref a1) (C := R_S) (T := T_S) (N := 3) hx hb hts iT_S hown hK hP 0 rfl rfl 0 (by decide) (hts _ wd_31) (fun _ h9 => h9) rfl d_S_between_39 ?_
  refine lv_iload_n hx hb d_S_between_42 rfl (lv_at hl 2 rfl) ?_
  refine k_lald (j := a) hx hb hK hP 1 0 rfl rfl (by omega) (by decide) d_S_between_43 ?_
  refine lv_lsub hx hb d_S_between_44 ?_
  refine k_calll (wr := [(h, .inr (2, [.ref a1, .ref a2, .int (nI n)])), (a1, .inl (cJ, 20, .inr (.inl ra))), (a2, .inl (cJ, 20, .inr (.inl rf)))]) (va_runS (As := [.long (((rf b) - (rf a)) * (w - (ra a))), .long ((ra b) - (ra a))]) (rest := [.long (rf a)]) ⟨hx, hb, hml, hown, hts⟩ (k_FD l dC dI cJ cI cZ _ (((rf b) - (rf a)) * (w - (ra a))) ((ra b) - (ra a)) hne) (k_cs (y := y_J_floorDiv) (own := R_S) hts wd_88 wd_85 wd_87 wd_86 hd_J_floorDiv ⟨Nat.le_of_ble_eq_true rfl, Nat.le_of_ble_eq_true rfl⟩) (k_preS hP hD hK [] rfl (by decide)) rfl rfl hl.1 rfl (lv_room (Nat.le_of_ble_eq_true rfl)) d_S_between_45 ⟨Nat.le_of_ble_eq_true rfl, Nat.le_of_ble_eq_true rfl⟩) hP hD hS hA [] [0, 1, 2] rfl rfl (by decide) (by decide) (fun r_45 uu H locs hpo hP hD hS => ?_)
  have hpo : r_45 = fdiv (((rf b) - (rf a)) * (w - (ra a))) ((ra b) - (ra a)) := hpo
  subst hpo
  have hP : va_P (dC, dI) vwCl [(h, .inr (2, [.ref a1, .ref a2, .int (nI n)])), (a1, .inl (cJ, 20, .inr (.inl ra))), (a2, .inl (cJ, 20, .inr (.inl rf)))] H := hP
  have hD : va_D A [(h, .inr (2, [.ref a1, .ref a2, .int (nI n)])), (a1, .inl (cJ, 20, .inr (.inl ra))), (a2, .inl (cJ, 20, .inr (.inl rf)))] := hD
  refine lv_ladd hx hb d_S_between_48 ?_
  exact k_lret (v := (rf a) + (fdiv (((rf b) - (rf a)) * (w - (ra a))) ((ra b) - (ra a)))) hx hb hr hlocks () rfl hP hD hK hS [0, 1, 2] (by decide) rfl d_S_between_49
/-- the fat of the skim -/
abbrev q_S_skimFatAt (dC : Nat → ClassId) (dI : Nat → Nat → Nat) (cJ cI cZ : ClassId) (h : Nat) (a1 : Nat) (a2 : Nat) (ra : Nat → Int64) (rf : Nat → Int64) (n : Nat) (w : Int64) (A : Nat → Prop) : Array Value → State → Outcome → State → Prop := va_Ql (fun (r : Int64) (_ : Unit) => r = skF ra rf n w) (kB (dC, dI) vwCl [(cJ, .long), (cI, .int), (cZ, .boolean)] A (fun (_ : Unit) => [(h, .inr (2, [.ref a1, .ref a2, .int (nI n)])), (a1, .inl (cJ, 20, .inr (.inl ra))), (a2, .inl (cJ, 20, .inr (.inl rf)))])) A
set_option maxHeartbeats 4000000 in
set_option maxRecDepth 100000 in
theorem k_S_skimFatAt (l : Launch) (dC : Nat → ClassId) (dI : Nat → Nat → Nat) (cJ cI cZ : ClassId) (sz : Nat) (h : Nat) (a1 : Nat) (a2 : Nat) (ra : Nat → Int64) (rf : Nat → Int64) (n : Nat) (w : Int64) (hn : n ≤ 20) : Met l y_S_skimFatAt w_S_skimFatAt { frames := 2, cells := 0, slots := 0, locals := 51 } (kPc (dC, dI) vwCl [(cJ, .long), (cI, .int), (cZ, .boolean)] [(h, .inr (2, [.ref a1, .ref a2, .int (nI n)])), (a1, .inl (cJ, 20, .inr (.inl ra))), (a2, .inl (cJ, 20, .inr (.inl rf)))] sz [.ref h, .long w]) (q_S_skimFatAt dC dI cJ cI cZ h a1 a2 ra rf n w (va_A [(h, .inr (2, [.ref a1, .ref a2, .int (nI n)])), (a1, .inl (cJ, 20, .inr (.inl ra))), (a2, .inl (cJ, 20, .inr (.inl rf)))] sz)) 0 0 (va_A [(h, .inr (2, [.ref a1, .ref a2, .int (nI n)])), (a1, .inl (cJ, 20, .inr (.inl ra))), (a2, .inl (cJ, 20, .inr (.inl rf)))] sz) := by
  refine k_met (q_S_skimFatAt dC dI cJ cI cZ h a1 a2 ra rf n w) (by decide +kernel) rfl (Nat.le_of_ble_eq_true rfl) ?_
  intro p e s m below meth c A hx hb hr hml hown hts hlocks hin hA H hP hK hD hS ls hl
  have hl : lv_has ls 4 [(0, .ref h), (1, .long w)] := hl
  have hown : s.vm.findClass R_S = some m.cls := hown
  have hts : ∀ wW ∈ kT, wW.before [.ref h, .long w].toArray s = true := fun wW hW => hts wW (List.mem_cons_of_mem _ hW)
  refine lv_aload_n hx hb d_S_skimFatAt_0 rfl (lv_at hl 0 rfl) ?_
  refine va_get (D := (dC, dI)) (ci := 2) (v := .int (nI n)) (C := R_S) (T := T_S) (N := 3) hx hb hts iT_S hown hK hP 0 rfl rfl 2 (by decide) (hts _ wd_33) (fun _ h9 => h9) rfl d_S_skimFatAt_1 ?_
  refine k_n0ne (tgt := 9) hx hb d_S_skimFatAt_4 (by decide) (by omega) (fun c_4 => ?_) (fun c_4 => ?_)
  · refine lv_aload_n hx hb d_S_skimFatAt_9 rfl (lv_at hl 0 rfl) ?_
    refine lv_lload_n hx hb d_S_skimFatAt_10 rfl (lv_at hl 1 rfl) ?_
    refine k_calli (wr := []) (va_runV (As := [.long w]) (rest := []) ⟨hx, hb, hml, hown, hts⟩ (k_S_firstNotBefore l dC dI cJ cI cZ _ h a1 a2 ra rf n w (by omega)) (k_cw (y := y_S_firstNotBefore) (own := R_S) hts wd_83 wd_21 wd_79 wd_77 wd_78 hd_S_firstNotBefore ⟨Nat.le_of_ble_eq_true rfl, Nat.le_of_ble_eq_true rfl⟩) (k_preV (ci := 2) (q0 := 0) hP hD hK [0, 1, 2] rfl (by decide) rfl rfl) rfl rfl hl.1 rfl (lv_room (Nat.le_of_ble_eq_true rfl)) d_S_skimFatAt_11 ⟨Nat.le_of_ble_eq_true rfl, Nat.le_of_ble_eq_true rfl⟩) hP hD hS hA [0, 1, 2] [] rfl rfl (by decide) (by decide) (fun r_11 uu H locs hpo hP hD hS => ?_)
    have hpo : r_11 = nI (rowF ra w n) := hpo
    subst hpo
    have hP : va_P (dC, dI) vwCl [(h, .inr (2, [.ref a1, .ref a2, .int (nI n)])), (a1, .inl (cJ, 20, .inr (.inl ra))), (a2, .inl (cJ, 20, .inr (.inl rf)))] H := hP
    have hD : va_D A [(h, .inr (2, [.ref a1, .ref a2, .int (nI n)])), (a1, .inl (cJ, 20, .inr (.inl ra))), (a2, .inl (cJ, 20, .inr (.inl rf)))] := hD
    have hrn := rowF_le ra w n
    refine lv_istore_n (lv' := [(3, .int (nI (rowF ra w n))), (0, .ref h), (1, .long w)]) hx hb d_S_skimFatAt_14 rfl hl (by decide) rfl (fun ls hl => ?_)
    refine lv_iload_n hx hb d_S_skimFatAt_15 rfl (lv_at hl 0 rfl) ?_
    refine lv_aload_n hx hb d_S_skimFatAt_16 rfl (lv_at hl 1 rfl) ?_
    refine va_get (D := (dC, dI)) (ci := 2) (v := .int (nI n)) (C := R_S) (T := T_S) (N := 3) hx hb hts iT_S hown hK hP 0 rfl rfl 2 (by decide) (hts _ wd_33) (fun _ h9 => h9) rfl d_S_skimFatAt_17 ?_
    refine k_nne (tgt := 35) hx hb d_S_skimFatAt_20 (by decide) (by omega) (by omega) (fun c_20 => ?_) (fun c_20 => ?_)
    · refine lv_iload_n hx hb d_S_skimFatAt_35 rfl (lv_at hl 0 rfl) ?_
      refine k_n0eq (tgt := 50) hx hb d_S_skimFatAt_36 (by decide) (by omega) (fun c_36 => ?_) (fun c_36 => ?_)
      · refine lv_aload_n hx hb d_S_skimFatAt_50 rfl (lv_at hl 1 rfl) ?_
        refine va_get (D := (dC, dI)) (ci := 2) (v := .ref a2) (C := R_S) (T := T_S) (N := 3) hx hb hts iT_S hown hK hP 0 rfl rfl 1 (by decide) (hts _ wd_32) (fun _ h9 => h9) rfl d_S_skimFatAt_51 ?_
        refine lv_iload_n hx hb d_S_skimFatAt_54 rfl (lv_at hl 0 rfl) ?_
        refine k_lald (j := rowF ra w n) hx hb hK hP 2 0 rfl rfl (by omega) (by decide) d_S_skimFatAt_55 ?_
        exact k_lret (v := rf (rowF ra w n)) hx hb hr hlocks () (by first | (unfold skF; rw [if_neg c_4, if_neg c_20, if_pos (Or.inl c_36)]; done) | (unfold skF; rw [if_neg c_4, if_neg c_20, if_pos (Or.inr c_46)]; done)) hP hD hK hS [0, 1, 2] (by decide) rfl d_S_skimFatAt_56
      · refine lv_aload_n hx hb d_S_skimFatAt_39 rfl (lv_at hl 1 rfl) ?_
        refine va_get (D := (dC, dI)) (ci := 2) (v := .ref a1) (C := R_S) (T := T_S) (N := 3) hx hb hts iT_S hown hK hP 0 rfl rfl 0 (by decide) (hts _ wd_31) (fun _ h9 => h9) rfl d_S_skimFatAt_40 ?_
        refine lv_iload_n hx hb d_S_skimFatAt_43 rfl (lv_at hl 0 rfl) ?_
        refine k_lald (j := rowF ra w n) hx hb hK hP 1 0 rfl rfl (by omega) (by decide) d_S_skimFatAt_44 ?_
        refine lv_lload_n hx hb d_S_skimFatAt_45 rfl (lv_at hl 2 rfl) ?_
        refine k_jne (tgt := 57) hx hb d_S_skimFatAt_46 d_S_skimFatAt_47 (by decide) (fun c_46 => ?_) (fun c_46 => ?_)
        · refine lv_aload_n hx hb d_S_skimFatAt_57 rfl (lv_at hl 1 rfl) ?_
          refine lv_iload_n hx hb d_S_skimFatAt_58 rfl (lv_at hl 0 rfl) ?_
          refine lv_iconst (v := nI 1) hx hb d_S_skimFatAt_59 (by decide) ?_
          refine lv_isub hx hb d_S_skimFatAt_60 ?_
          refine k_toi (pk_sub (by omega)) ?_
          refine lv_iload_n hx hb d_S_skimFatAt_61 rfl (lv_at hl 0 rfl) ?_
          refine lv_lload_n hx hb d_S_skimFatAt_62 rfl (lv_at hl 2 rfl) ?_
          refine k_calll (wr := []) (va_runV (As := [.int (nI ((rowF ra w n) - 1)), .int (nI (rowF ra w n)), .long w]) (rest := []) ⟨hx, hb, hml, hown, hts⟩ (k_S_between l dC dI cJ cI cZ _ h a1 a2 ra rf n ((rowF ra w n) - 1) (rowF ra w n) w (by omega) (by omega) (by omega) (sk_ne (by omega) (by omega))) (k_cw (y := y_S_between) (own := R_S) hts wd_84 wd_21 wd_82 wd_80 wd_81 hd_S_between ⟨Nat.le_of_ble_eq_true rfl, Nat.le_of_ble_eq_true rfl⟩) (k_preV (ci := 2) (q0 := 0) hP hD hK [0, 1, 2] rfl (by decide) rfl rfl) rfl rfl hl.1 rfl (lv_room (Nat.le_of_ble_eq_true rfl)) d_S_skimFatAt_63 ⟨Nat.le_of_ble_eq_true rfl, Nat.le_of_ble_eq_true rfl⟩) hP hD hS hA [0, 1, 2] [] rfl rfl (by decide) (by decide) (fun r_63 uu H locs hpo hP hD hS => ?_)
          have hpo : r_63 = btwF ra rf ((rowF ra w n) - 1) (rowF ra w n) w := hpo
          subst hpo
          have hP : va_P (dC, dI) vwCl [(h, .inr (2, [.ref a1, .ref a2, .int (nI n)])), (a1, .inl (cJ, 20, .inr (.inl ra))), (a2, .inl (cJ, 20, .inr (.inl rf)))] H := hP
          have hD : va_D A [(h, .inr (2, [.ref a1, .ref a2, .int (nI n)])), (a1, .inl (cJ, 20, .inr (.inl ra))), (a2, .inl (cJ, 20, .inr (.inl rf)))] := hD
          exact k_lret (v := btwF ra rf ((rowF ra w n) - 1) (rowF ra w n) w) hx hb hr hlocks () (by unfold skF; rw [if_neg c_4, if_neg c_20, if_neg (fun h => h.elim c_36 c_46)]) hP hD hK hS [0, 1, 2] (by decide) rfl d_S_skimFatAt_66
        · refine lv_aload_n hx hb d_S_skimFatAt_50 rfl (lv_at hl 1 rfl) ?_
          refine va_get (D := (dC, dI)) (ci := 2) (v := .ref a2) (C := R_S) (T := T_S) (N := 3) hx hb hts iT_S hown hK hP 0 rfl rfl 1 (by decide) (hts _ wd_32) (fun _ h9 => h9) rfl d_S_skimFatAt_51 ?_
          refine lv_iload_n hx hb d_S_skimFatAt_54 rfl (lv_at hl 0 rfl) ?_
          refine k_lald (j := rowF ra w n) hx hb hK hP 2 0 rfl rfl (by omega) (by decide) d_S_skimFatAt_55 ?_
          exact k_lret (v := rf (rowF ra w n)) hx hb hr hlocks () (by first | (unfold skF; rw [if_neg c_4, if_neg c_20, if_pos (Or.inl c_36)]; done) | (unfold skF; rw [if_neg c_4, if_neg c_20, if_pos (Or.inr c_46)]; done)) hP hD hK hS [0, 1, 2] (by decide) rfl d_S_skimFatAt_56
    · refine lv_aload_n hx hb d_S_skimFatAt_23 rfl (lv_at hl 1 rfl) ?_
      refine va_get (D := (dC, dI)) (ci := 2) (v := .ref a2) (C := R_S) (T := T_S) (N := 3) hx hb hts iT_S hown hK hP 0 rfl rfl 1 (by decide) (hts _ wd_32) (fun _ h9 => h9) rfl d_S_skimFatAt_24 ?_
      refine lv_aload_n hx hb d_S_skimFatAt_27 rfl (lv_at hl 1 rfl) ?_
      refine va_get (D := (dC, dI)) (ci := 2) (v := .int (nI n)) (C := R_S) (T := T_S) (N := 3) hx hb hts iT_S hown hK hP 0 rfl rfl 2 (by decide) (hts _ wd_33) (fun _ h9 => h9) rfl d_S_skimFatAt_28 ?_
      refine lv_iconst (v := nI 1) hx hb d_S_skimFatAt_31 (by decide) ?_
      refine lv_isub hx hb d_S_skimFatAt_32 ?_
      refine k_toi (pk_sub (by omega)) ?_
      refine k_lald (j := n - 1) hx hb hK hP 2 0 rfl rfl (by omega) (by decide) d_S_skimFatAt_33 ?_
      exact k_lret (v := rf (n - 1)) hx hb hr hlocks () (by unfold skF; rw [if_neg c_4, if_pos c_20]) hP hD hK hS [0, 1, 2] (by decide) rfl d_S_skimFatAt_34
  · refine lv_lconst (v := 0) hx hb d_S_skimFatAt_7 (by decide) ?_
    exact k_lret (v := 0) hx hb hr hlocks () (by unfold skF; rw [if_pos c_4]) hP hD hK hS [0, 1, 2] (by decide) rfl d_S_skimFatAt_8
/-- a row comes, or gives way -/
abbrev q_S_put (dC : Nat → ClassId) (dI : Nat → Nat → Nat) (cJ cI cZ : ClassId) (h : Nat) (a1 : Nat) (a2 : Nat) (ra : Nat → Int64) (rf : Nat → Int64) (n : Nat) (w : Int64) (f : Int64) (A : Nat → Prop) : Array Value → State → Outcome → State → Prop := va_Qi (fun (r : Int32) (_ : Unit) => r = zI (putB ra n w)) (kB (dC, dI) vwCl [(cJ, .long), (cI, .int), (cZ, .boolean)] A (fun (_ : Unit) => [(h, .inr (2, [.ref a1, .ref a2, .int (nI (putN ra n w))])), (a1, .inl (cJ, 20, .inr (.inl (putA ra n w)))), (a2, .inl (cJ, 20, .inr (.inl (putF ra rf n w f))))])) A
set_option maxHeartbeats 4000000 in
set_option maxRecDepth 100000 in
theorem k_S_put (l : Launch) (dC : Nat → ClassId) (dI : Nat → Nat → Nat) (cJ cI cZ : ClassId) (sz : Nat) (h : Nat) (a1 : Nat) (a2 : Nat) (ra : Nat → Int64) (rf : Nat → Int64) (n : Nat) (w : Int64) (f : Int64) (hn : n ≤ 20) : Met l y_S_put w_S_put { frames := 1, cells := 0, slots := 0, locals := 23 } (kPc (dC, dI) vwCl [(cJ, .long), (cI, .int), (cZ, .boolean)] [(h, .inr (2, [.ref a1, .ref a2, .int (nI n)])), (a1, .inl (cJ, 20, .inr (.inl ra))), (a2, .inl (cJ, 20, .inr (.inl rf)))] sz [.ref h, .long w, .long f]) (q_S_put dC dI cJ cI cZ h a1 a2 ra rf n w f (va_A [(h, .inr (2, [.ref a1, .ref a2, .int (nI n)])), (a1, .inl (cJ, 20, .inr (.inl ra))), (a2, .inl (cJ, 20, .inr (.inl rf)))] sz)) 0 0 (va_A [(h, .inr (2, [.ref a1, .ref a2, .int (nI n)])), (a1, .inl (cJ, 20, .inr (.inl ra))), (a2, .inl (cJ, 20, .inr (.inl rf)))] sz) := by
  refine k_met (q_S_put dC dI cJ cI cZ h a1 a2 ra rf n w f) (by decide +kernel) rfl (Nat.le_of_ble_eq_true rfl) ?_
  intro p e s m below meth c A hx hb hr hml hown hts hlocks hin hA H hP hK hD hS ls hl
  have hl : lv_has ls 7 [(0, .ref h), (1, .long w), (3, .long f)] := hl
  have hown : s.vm.findClass R_S = some m.cls := hown
  have hts : ∀ wW ∈ kT, wW.before [.ref h, .long w, .long f].toArray s = true := fun wW hW => hts wW (List.mem_cons_of_mem _ hW)
  refine lv_aload_n hx hb d_S_put_0 rfl (lv_at hl 0 rfl) ?_
  refine lv_lload_n hx hb d_S_put_1 rfl (lv_at hl 1 rfl) ?_
  refine k_calli (wr := []) (va_runV (As := [.long w]) (rest := []) ⟨hx, hb, hml, hown, hts⟩ (k_S_firstNotBefore l dC dI cJ cI cZ _ h a1 a2 ra rf n w (by omega)) (k_cw (y := y_S_firstNotBefore) (own := R_S) hts wd_83 wd_21 wd_79 wd_77 wd_78 hd_S_firstNotBefore ⟨Nat.le_of_ble_eq_true rfl, Nat.le_of_ble_eq_true rfl⟩) (k_preV (ci := 2) (q0 := 0) hP hD hK [0, 1, 2] rfl (by decide) rfl rfl) rfl rfl hl.1 rfl (lv_room (Nat.le_of_ble_eq_true rfl)) d_S_put_2 ⟨Nat.le_of_ble_eq_true rfl, Nat.le_of_ble_eq_true rfl⟩) hP hD hS hA [0, 1, 2] [] rfl rfl (by decide) (by decide) (fun r_2 uu H locs hpo hP hD hS => ?_)
  have hpo : r_2 = nI (rowF ra w n) := hpo
  subst hpo
  have hP : va_P (dC, dI) vwCl [(h, .inr (2, [.ref a1, .ref a2, .int (nI n)])), (a1, .inl (cJ, 20, .inr (.inl ra))), (a2, .inl (cJ, 20, .inr (.inl rf)))] H := hP
  have hD : va_D A [(h, .inr (2, [.ref a1, .ref a2, .int (nI n)])), (a1, .inl (cJ, 20, .inr (.inl ra))), (a2, .inl (cJ, 20, .inr (.inl rf)))] := hD
  have hrn := rowF_le ra w n
  refine lv_istore (lv' := [(5, .int (nI (rowF ra w n))), (0, .ref h), (1, .long w), (3, .long f)]) hx hb d_S_put_5 hl (by decide) rfl (fun ls hl => ?_)
  have cut_38 : ∀ (hno : ¬ (rowF ra w n < n ∧ ra (rowF ra w n) = w)) (H : Heap) (locs : List Loc) (ls : Array Slot), va_P (dC, dI) vwCl [(h, .inr (2, [.ref a1, .ref a2, .int (nI n)])), (a1, .inl (cJ, 20, .inr (.inl ra))), (a2, .inl (cJ, 20, .inr (.inl rf)))] H → va_D A [(h, .inr (2, [.ref a1, .ref a2, .int (nI n)])), (a1, .inl (cJ, 20, .inr (.inl ra))), (a2, .inl (cJ, 20, .inr (.inl rf)))] → va_S A s.heap H locs → lv_has ls 7 [(0, .ref h), (1, .long w), (3, .long f), (5, .int (nI (rowF ra w n)))] → W p l e { frames := 1, cells := 0, slots := 0, locals := 23 } s m [.ref h, .long w, .long f].toArray below meth c H locs 0 0 (MQ below (q_S_put dC dI cJ cI cZ h a1 a2 ra rf n w f A) [.ref h, .long w, .long f].toArray s 0 0 A) (F0 m 38 ls []) := by
    intro hno H locs ls hP hD hS hl
    refine lv_aload_n hx hb d_S_put_38 rfl (lv_at hl 0 rfl) ?_
    refine va_get (D := (dC, dI)) (ci := 2) (v := .int (nI n)) (C := R_S) (T := T_S) (N := 3) hx hb hts iT_S hown hK hP 0 rfl rfl 2 (by decide) (hts _ wd_33) (fun _ h9 => h9) rfl d_S_put_39 ?_
    refine lv_bipush (v := nI 20) hx hb d_S_put_42 (by decide) ?_
    refine k_nlt (tgt := 49) hx hb d_S_put_44 (by decide) (by omega) (by omega) (fun c_44 => ?_) (fun c_44 => ?_)
    · refine lv_aload_n hx hb d_S_put_49 rfl (lv_at hl 0 rfl) ?_
      refine va_get (D := (dC, dI)) (ci := 2) (v := .int (nI n)) (C := R_S) (T := T_S) (N := 3) hx hb hts iT_S hown hK hP 0 rfl rfl 2 (by decide) (hts _ wd_33) (fun _ h9 => h9) rfl d_S_put_50 ?_
      refine lv_istore (lv' := [(6, .int (nI n)), (0, .ref h), (1, .long w), (3, .long f), (5, .int (nI (rowF ra w n)))]) hx hb d_S_put_53 hl (by decide) rfl (fun ls hl => ?_)
      have hP : va_P (dC, dI) vwCl [(h, .inr (2, [.ref a1, .ref a2, .int (nI n)])), (a1, .inl (cJ, 20, .inr (.inl (shf ra n n)))), (a2, .inl (cJ, 20, .inr (.inl rf)))] H := by rw [shf_n ra n]; exact hP
      have hD : va_D A [(h, .inr (2, [.ref a1, .ref a2, .int (nI n)])), (a1, .inl (cJ, 20, .inr (.inl (shf ra n n)))), (a2, .inl (cJ, 20, .inr (.inl rf)))] := by rw [shf_n ra n]; exact hD
      have hP : va_P (dC, dI) vwCl [(h, .inr (2, [.ref a1, .ref a2, .int (nI n)])), (a1, .inl (cJ, 20, .inr (.inl (shf ra n n)))), (a2, .inl (cJ, 20, .inr (.inl (shf rf n n))))] H := by rw [shf_n rf n]; exact hP
      have hD : va_D A [(h, .inr (2, [.ref a1, .ref a2, .int (nI n)])), (a1, .inl (cJ, 20, .inr (.inl (shf ra n n)))), (a2, .inl (cJ, 20, .inr (.inl (shf rf n n))))] := by rw [shf_n rf n]; exact hD
      have loop_55 : ∀ (fu_55 : Nat) (i : Nat) (hi : i ≤ n) (hir : rowF ra w n ≤ i) (hfu_55 : i + 1 ≤ rowF ra w n + fu_55) (H : Heap) (locs : List Loc) (ls : Array Slot), va_P (dC, dI) vwCl [(h, .inr (2, [.ref a1, .ref a2, .int (nI n)])), (a1, .inl (cJ, 20, .inr (.inl (shf ra i n)))), (a2, .inl (cJ, 20, .inr (.inl (shf rf i n))))] H → va_D A [(h, .inr (2, [.ref a1, .ref a2, .int (nI n)])), (a1, .inl (cJ, 20, .inr (.inl (shf ra i n)))), (a2, .inl (cJ, 20, .inr (.inl (shf rf i n))))] → va_S A s.heap H locs → lv_has ls 7 [(0, .ref h), (1, .long w), (3, .long f), (5, .int (nI (rowF ra w n))), (6, .int (nI i))] → W p l e { frames := 1, cells := 0, slots := 0, locals := 23 } s m [.ref h, .long w, .long f].toArray below meth c H locs 0 0 (MQ below (q_S_put dC dI cJ cI cZ h a1 a2 ra rf n w f A) [.ref h, .long w, .long f].toArray s 0 0 A) (F0 m 55 ls []) := by
        intro fu_55
        induction fu_55 with
        | zero =>
          intro i hi hir hfu_55 H locs ls hP hD hS hl
          exact absurd hfu_55 (by omega)
        | succ fu_55 ih_55 =>
          intro i hi hir hfu_55 H locs ls hP hD hS hl
          refine lv_iload hx hb d_S_put_55 (lv_at hl 4 rfl) ?_
          refine lv_iload hx hb d_S_put_57 (lv_at hl 3 rfl) ?_
          refine k_nle (tgt := 100) hx hb d_S_put_59 (by decide) (by omega) (by omega) (fun c_59 => ?_) (fun c_59 => ?_)
          · obtain rfl : i = rowF ra w n := by omega
            refine lv_aload_n hx hb d_S_put_100 rfl (lv_at hl 0 rfl) ?_
            refine va_get (D := (dC, dI)) (ci := 2) (v := .ref a1) (C := R_S) (T := T_S) (N := 3) hx hb hts iT_S hown hK hP 0 rfl rfl 0 (by decide) (hts _ wd_31) (fun _ h9 => h9) rfl d_S_put_101 ?_
            refine lv_iload hx hb d_S_put_104 (lv_at hl 3 rfl) ?_
            refine lv_lload_n hx hb d_S_put_106 rfl (lv_at hl 1 rfl) ?_
            refine k_last (j := rowF ra w n) hx hb hK hP hD hS 1 0 rfl rfl (by omega) (by decide) d_S_put_107 (fun H locs hP hD hS => ?_)
            have hP : va_P (dC, dI) vwCl [(h, .inr (2, [.ref a1, .ref a2, .int (nI n)])), (a1, .inl (cJ, 20, .inr (.inl (vp_updL (shf ra (rowF ra w n) n) (rowF ra w n) w)))), (a2, .inl (cJ, 20, .inr (.inl (shf rf (rowF ra w n) n))))] H := hP
            have hD : va_D A [(h, .inr (2, [.ref a1, .ref a2, .int (nI n)])), (a1, .inl (cJ, 20, .inr (.inl (vp_updL (shf ra (rowF ra w n) n) (rowF ra w n) w)))), (a2, .inl (cJ, 20, .inr (.inl (shf rf (rowF ra w n) n))))] := hD
            refine lv_aload_n hx hb d_S_put_108 rfl (lv_at hl 0 rfl) ?_
            refine va_get (D := (dC, dI)) (ci := 2) (v := .ref a2) (C := R_S) (T := T_S) (N := 3) hx hb hts iT_S hown hK hP 0 rfl rfl 1 (by decide) (hts _ wd_32) (fun _ h9 => h9) rfl d_S_put_109 ?_
            refine lv_iload hx hb d_S_put_112 (lv_at hl 3 rfl) ?_
            refine lv_lload_n hx hb d_S_put_114 rfl (lv_at hl 2 rfl) ?_
            refine k_last (j := rowF ra w n) hx hb hK hP hD hS 2 0 rfl rfl (by omega) (by decide) d_S_put_115 (fun H locs hP hD hS => ?_)
            have hP : va_P (dC, dI) vwCl [(h, .inr (2, [.ref a1, .ref a2, .int (nI n)])), (a1, .inl (cJ, 20, .inr (.inl (vp_updL (shf ra (rowF ra w n) n) (rowF ra w n) w)))), (a2, .inl (cJ, 20, .inr (.inl (vp_updL (shf rf (rowF ra w n) n) (rowF ra w n) f))))] H := hP
            have hD : va_D A [(h, .inr (2, [.ref a1, .ref a2, .int (nI n)])), (a1, .inl (cJ, 20, .inr (.inl (vp_updL (shf ra (rowF ra w n) n) (rowF ra w n) w)))), (a2, .inl (cJ, 20, .inr (.inl (vp_updL (shf rf (rowF ra w n) n) (rowF ra w n) f))))] := hD
            refine lv_aload_n hx hb d_S_put_116 rfl (lv_at hl 0 rfl) ?_
            refine lv_dup hx hb d_S_put_117 rfl ?_
            refine va_get (D := (dC, dI)) (ci := 2) (v := .int (nI n)) (C := R_S) (T := T_S) (N := 3) hx hb hts iT_S hown hK hP 0 rfl rfl 2 (by decide) (hts _ wd_33) (fun _ h9 => h9) rfl d_S_put_118 ?_
            refine lv_iconst (v := nI 1) hx hb d_S_put_121 (by decide) ?_
            refine lv_iadd hx hb d_S_put_122 ?_
            refine k_toi (nI_add n 1) ?_
            refine va_put (D := (dC, dI)) (ci := 2) (v := .int (nI (n + 1))) (ty := .int) (C := R_S) (T := T_S) (N := 3) hx hb hts iT_S t_S t_S_ok n_S hown hK hP hD hS 0 rfl rfl 2 (by decide) (hts _ wd_33) (fun _ h9 => h9) rfl (by decide +kernel) rfl rfl (Nat.le_of_ble_eq_true rfl) d_S_put_123 (fun H locs hP hD hS => ?_)
            have hP : va_P (dC, dI) vwCl [(h, .inr (2, [.ref a1, .ref a2, .int (nI (n + 1))])), (a1, .inl (cJ, 20, .inr (.inl (vp_updL (shf ra (rowF ra w n) n) (rowF ra w n) w)))), (a2, .inl (cJ, 20, .inr (.inl (vp_updL (shf rf (rowF ra w n) n) (rowF ra w n) f))))] H := hP
            have hD : va_D A [(h, .inr (2, [.ref a1, .ref a2, .int (nI (n + 1))])), (a1, .inl (cJ, 20, .inr (.inl (vp_updL (shf ra (rowF ra w n) n) (rowF ra w n) w)))), (a2, .inl (cJ, 20, .inr (.inl (vp_updL (shf rf (rowF ra w n) n) (rowF ra w n) f))))] := hD
            refine lv_iconst (v := nI 1) hx hb d_S_put_126 (by decide) ?_
            have fq_0 : putA ra n w = vp_updL (shf ra (rowF ra w n) n) (rowF ra w n) w := by unfold putA; rw [if_neg hno, if_neg (by omega)]
            have fq_1 : putF ra rf n w f = vp_updL (shf rf (rowF ra w n) n) (rowF ra w n) f := by unfold putF; rw [if_neg hno, if_neg (by omega)]
            have fq_2 : putN ra n w = n + 1 := by unfold putN; rw [if_neg hno, if_neg (by omega)]
            have hP : va_P (dC, dI) vwCl [(h, .inr (2, [.ref a1, .ref a2, .int (nI (putN ra n w))])), (a1, .inl (cJ, 20, .inr (.inl (putA ra n w)))), (a2, .inl (cJ, 20, .inr (.inl (putF ra rf n w f))))] H := by rw [fq_0, fq_1, fq_2]; exact hP
            have hD : va_D A [(h, .inr (2, [.ref a1, .ref a2, .int (nI (putN ra n w))])), (a1, .inl (cJ, 20, .inr (.inl (putA ra n w)))), (a2, .inl (cJ, 20, .inr (.inl (putF ra rf n w f))))] := by rw [fq_0, fq_1, fq_2]; exact hD
            exact k_zret (v := nI 1) hx hb hr hlocks rfl () (by unfold putB; rw [if_neg hno, if_neg (by omega)]; rfl) hP hD hK hS [0, 1, 2] (by decide) rfl d_S_put_127
          · refine lv_aload_n hx hb d_S_put_62 rfl (lv_at hl 0 rfl) ?_
            refine va_get (D := (dC, dI)) (ci := 2) (v := .ref a1) (C := R_S) (T := T_S) (N := 3) hx hb hts iT_S hown hK hP 0 rfl rfl 0 (by decide) (hts _ wd_31) (fun _ h9 => h9) rfl d_S_put_63 ?_
            refine lv_iload hx hb d_S_put_66 (lv_at hl 4 rfl) ?_
            refine lv_aload_n hx hb d_S_put_68 rfl (lv_at hl 0 rfl) ?_
            refine va_get (D := (dC, dI)) (ci := 2) (v := .ref a1) (C := R_S) (T := T_S) (N := 3) hx hb hts iT_S hown hK hP 0 rfl rfl 0 (by decide) (hts _ wd_31) (fun _ h9 => h9) rfl d_S_put_69 ?_
            refine lv_iload hx hb d_S_put_72 (lv_at hl 4 rfl) ?_
            refine lv_iconst (v := nI 1) hx hb d_S_put_74 (by decide) ?_
            refine lv_isub hx hb d_S_put_75 ?_
            refine k_toi (pk_sub (by omega)) ?_
            refine k_lald (j := i - 1) hx hb hK hP 1 0 rfl rfl (by omega) (by decide) d_S_put_76 ?_
            refine k_last (j := i) hx hb hK hP hD hS 1 0 rfl rfl (by omega) (by decide) d_S_put_77 (fun H locs hP hD hS => ?_)
            have ef_77 : vp_updL (shf ra i n) i ((shf ra i n) (i - 1)) = shf ra (i - 1) n := shf_step ra (by omega) hi
            rw [ef_77] at hP hD
            have hP : va_P (dC, dI) vwCl [(h, .inr (2, [.ref a1, .ref a2, .int (nI n)])), (a1, .inl (cJ, 20, .inr (.inl (shf ra (i - 1) n)))), (a2, .inl (cJ, 20, .inr (.inl (shf rf i n))))] H := hP
            have hD : va_D A [(h, .inr (2, [.ref a1, .ref a2, .int (nI n)])), (a1, .inl (cJ, 20, .inr (.inl (shf ra (i - 1) n)))), (a2, .inl (cJ, 20, .inr (.inl (shf rf i n))))] := hD
            refine lv_aload_n hx hb d_S_put_78 rfl (lv_at hl 0 rfl) ?_
            refine va_get (D := (dC, dI)) (ci := 2) (v := .ref a2) (C := R_S) (T := T_S) (N := 3) hx hb hts iT_S hown hK hP 0 rfl rfl 1 (by decide) (hts _ wd_32) (fun _ h9 => h9) rfl d_S_put_79 ?_
            refine lv_iload hx hb d_S_put_82 (lv_at hl 4 rfl) ?_
            refine lv_aload_n hx hb d_S_put_84 rfl (lv_at hl 0 rfl) ?_
            refine va_get (D := (dC, dI)) (ci := 2) (v := .ref a2) (C := R_S) (T := T_S) (N := 3) hx hb hts iT_S hown hK hP 0 rfl rfl 1 (by decide) (hts _ wd_32) (fun _ h9 => h9) rfl d_S_put_85 ?_
            refine lv_iload hx hb d_S_put_88 (lv_at hl 4 rfl) ?_
            refine lv_iconst (v := nI 1) hx hb d_S_put_90 (by decide) ?_
            refine lv_isub hx hb d_S_put_91 ?_
            refine k_toi (pk_sub (by omega)) ?_
            refine k_lald (j := i - 1) hx hb hK hP 2 0 rfl rfl (by omega) (by decide) d_S_put_92 ?_
            refine k_last (j := i) hx hb hK hP hD hS 2 0 rfl rfl (by omega) (by decide) d_S_put_93 (fun H locs hP hD hS => ?_)
            have ef_93 : vp_updL (shf rf i n) i ((shf rf i n) (i - 1)) = shf rf (i - 1) n := shf_step rf (by omega) hi
            rw [ef_93] at hP hD
            have hP : va_P (dC, dI) vwCl [(h, .inr (2, [.ref a1, .ref a2, .int (nI n)])), (a1, .inl (cJ, 20, .inr (.inl (shf ra (i - 1) n)))), (a2, .inl (cJ, 20, .inr (.inl (shf rf (i - 1) n))))] H := hP
            have hD : va_D A [(h, .inr (2, [.ref a1, .ref a2, .int (nI n)])), (a1, .inl (cJ, 20, .inr (.inl (shf ra (i - 1) n)))), (a2, .inl (cJ, 20, .inr (.inl (shf rf (i - 1) n))))] := hD
            refine lv_iinc (v := nI (i - 1)) (lv' := [(6, .int (nI (i - 1))), (0, .ref h), (1, .long w), (3, .long f), (5, .int (nI (rowF ra w n)))]) hx hb d_S_put_94 hl (k := 4) rfl (sb_m1 (by omega)) (by decide) rfl (fun ls hl => ?_)
            refine lv_goto (tgt := 55) hx hb d_S_put_97 (by decide) ?_
            exact ih_55 (i - 1) (by omega) (by omega) (by omega) _ _ _ hP hD hS (lv_sub hl [1, 2, 3, 4, 0] rfl)
      exact loop_55 (n + 1) n (by omega) (by omega) (by omega) _ _ _ hP hD hS (lv_sub hl [1, 2, 3, 4, 0] rfl)
    · refine lv_iconst (v := nI 0) hx hb d_S_put_47 (by decide) ?_
      have fq_0 : putA ra n w = ra := by unfold putA; rw [if_neg hno, if_pos c_44]
      have fq_1 : putF ra rf n w f = rf := by unfold putF; rw [if_neg hno, if_pos c_44]
      have fq_2 : putN ra n w = n := by unfold putN; rw [if_neg hno, if_pos c_44]
      have hP : va_P (dC, dI) vwCl [(h, .inr (2, [.ref a1, .ref a2, .int (nI (putN ra n w))])), (a1, .inl (cJ, 20, .inr (.inl (putA ra n w)))), (a2, .inl (cJ, 20, .inr (.inl (putF ra rf n w f))))] H := by rw [fq_0, fq_1, fq_2]; exact hP
      have hD : va_D A [(h, .inr (2, [.ref a1, .ref a2, .int (nI (putN ra n w))])), (a1, .inl (cJ, 20, .inr (.inl (putA ra n w)))), (a2, .inl (cJ, 20, .inr (.inl (putF ra rf n w f))))] := by rw [fq_0, fq_1, fq_2]; exact hD
      exact k_zret (v := nI 0) hx hb hr hlocks rfl () (by unfold putB; rw [if_neg hno, if_pos c_44]; rfl) hP hD hK hS [0, 1, 2] (by decide) rfl d_S_put_48
  refine lv_iload hx hb d_S_put_7 (lv_at hl 0 rfl) ?_
  refine lv_aload_n hx hb d_S_put_9 rfl (lv_at hl 1 rfl) ?_
  refine va_get (D := (dC, dI)) (ci := 2) (v := .int (nI n)) (C := R_S) (T := T_S) (N := 3) hx hb hts iT_S hown hK hP 0 rfl rfl 2 (by decide) (hts _ wd_33) (fun _ h9 => h9) rfl d_S_put_10 ?_
  refine k_nge (tgt := 38) hx hb d_S_put_13 (by decide) (by omega) (by omega) (fun c_13 => ?_) (fun c_13 => ?_)
  · exact cut_38 (fun h => absurd h.1 (by omega)) _ _ _ hP hD hS (lv_sub hl [1, 2, 3, 0] rfl)
  · refine lv_aload_n hx hb d_S_put_16 rfl (lv_at hl 1 rfl) ?_
    refine va_get (D := (dC, dI)) (ci := 2) (v := .ref a1) (C := R_S) (T := T_S) (N := 3) hx hb hts iT_S hown hK hP 0 rfl rfl 0 (by decide) (hts _ wd_31) (fun _ h9 => h9) rfl d_S_put_17 ?_
    refine lv_iload hx hb d_S_put_20 (lv_at hl 0 rfl) ?_
    refine k_lald (j := rowF ra w n) hx hb hK hP 1 0 rfl rfl (by omega) (by decide) d_S_put_22 ?_
    refine lv_lload_n hx hb d_S_put_23 rfl (lv_at hl 2 rfl) ?_
    refine k_jne (tgt := 38) hx hb d_S_put_24 d_S_put_25 (by decide) (fun c_24 => ?_) (fun c_24 => ?_)
    · exact cut_38 (fun h => c_24 h.2) _ _ _ hP hD hS (lv_sub hl [1, 2, 3, 0] rfl)
    · refine lv_aload_n hx hb d_S_put_28 rfl (lv_at hl 1 rfl) ?_
      refine va_get (D := (dC, dI)) (ci := 2) (v := .ref a2) (C := R_S) (T := T_S) (N := 3) hx hb hts iT_S hown hK hP 0 rfl rfl 1 (by decide) (hts _ wd_32) (fun _ h9 => h9) rfl d_S_put_29 ?_
      refine lv_iload hx hb d_S_put_32 (lv_at hl 0 rfl) ?_
      refine lv_lload_n hx hb d_S_put_34 rfl (lv_at hl 3 rfl) ?_
      refine k_last (j := rowF ra w n) hx hb hK hP hD hS 2 0 rfl rfl (by omega) (by decide) d_S_put_35 (fun H locs hP hD hS => ?_)
      have hP : va_P (dC, dI) vwCl [(h, .inr (2, [.ref a1, .ref a2, .int (nI n)])), (a1, .inl (cJ, 20, .inr (.inl ra))), (a2, .inl (cJ, 20, .inr (.inl (vp_updL rf (rowF ra w n) f))))] H := hP
      have hD : va_D A [(h, .inr (2, [.ref a1, .ref a2, .int (nI n)])), (a1, .inl (cJ, 20, .inr (.inl ra))), (a2, .inl (cJ, 20, .inr (.inl (vp_updL rf (rowF ra w n) f))))] := hD
      refine lv_iconst (v := nI 1) hx hb d_S_put_36 (by decide) ?_
      have fq_0 : putA ra n w = ra := by unfold putA; rw [if_pos ⟨c_13, c_24⟩]
      have fq_1 : putF ra rf n w f = vp_updL rf (rowF ra w n) f := by unfold putF; rw [if_pos ⟨c_13, c_24⟩]
      have fq_2 : putN ra n w = n := by unfold putN; rw [if_pos ⟨c_13, c_24⟩]
      have hP : va_P (dC, dI) vwCl [(h, .inr (2, [.ref a1, .ref a2, .int (nI (putN ra n w))])), (a1, .inl (cJ, 20, .inr (.inl (putA ra n w)))), (a2, .inl (cJ, 20, .inr (.inl (putF ra rf n w f))))] H := by rw [fq_0, fq_1, fq_2]; exact hP
      have hD : va_D A [(h, .inr (2, [.ref a1, .ref a2, .int (nI (putN ra n w))])), (a1, .inl (cJ, 20, .inr (.inl (putA ra n w)))), (a2, .inl (cJ, 20, .inr (.inl (putF ra rf n w f))))] := by rw [fq_0, fq_1, fq_2]; exact hD
      exact k_zret (v := nI 1) hx hb hr hlocks rfl () (by unfold putB; rw [if_pos ⟨c_13, c_24⟩]; rfl) hP hD hK hS [0, 1, 2] (by decide) rfl d_S_put_37
end
section
/-- nothing is met, no lots -/
abbrev q_M_forget (dC : Nat → ClassId) (dI : Nat → Nat → Nat) (cJ cI cZ : ClassId) (h : Nat) (aL : Nat) (aF : Nat) (aS : Nat) (aT : Nat) (aB : Nat) (ml : Nat → Int32) (n : Nat) (mf : Nat → Int64) (ms : Nat → Int64) (u : MixS) (A : Nat → Prop) : Array Value → State → Outcome → State → Prop := va_Qv (fun (_ : Unit) => True) (kB (dC, dI) vwCl [(cJ, .long), (cI, .int), (cZ, .boolean)] A (fun (_ : Unit) => [(h, .inr (1, [.ref aL, .int (nI 0), .ref aF, .ref aS, .ref aT, .long ((fgF u).2.1), .ref aB, .long ((fgF u).2.2.2.1), .int (zI ((fgF u).2.2.2.2))])), (aL, .inl (cI, 4, .inl ml)), (aF, .inl (cJ, 5, .inr (.inl mf))), (aS, .inl (cJ, 5, .inr (.inl ms))), (aT, .inl (cJ, 4, .inr (.inl ((fgF u).1)))), (aB, .inl (cJ, 4, .inr (.inl ((fgF u).2.2.1))))])) A
set_option maxHeartbeats 4000000 in
set_option maxRecDepth 100000 in
theorem k_M_forget (l : Launch) (dC : Nat → ClassId) (dI : Nat → Nat → Nat) (cJ cI cZ : ClassId) (sz : Nat) (h : Nat) (aL : Nat) (aF : Nat) (aS : Nat) (aT : Nat) (aB : Nat) (ml : Nat → Int32) (n : Nat) (mf : Nat → Int64) (ms : Nat → Int64) (u : MixS)  : Met l y_M_forget w_M_forget { frames := 0, cells := 0, slots := 0, locals := 0 } (kPc (dC, dI) vwCl [(cJ, .long), (cI, .int), (cZ, .boolean)] [(h, .inr (1, [.ref aL, .int (nI n), .ref aF, .ref aS, .ref aT, .long u.2.1, .ref aB, .long u.2.2.2.1, .int (zI u.2.2.2.2)])), (aL, .inl (cI, 4, .inl ml)), (aF, .inl (cJ, 5, .inr (.inl mf))), (aS, .inl (cJ, 5, .inr (.inl ms))), (aT, .inl (cJ, 4, .inr (.inl u.1))), (aB, .inl (cJ, 4, .inr (.inl u.2.2.1)))] sz [.ref h]) (q_M_forget dC dI cJ cI cZ h aL aF aS aT aB ml n mf ms u (va_A [(h, .inr (1, [.ref aL, .int (nI n), .ref aF, .ref aS, .ref aT, .long u.2.1, .ref aB, .long u.2.2.2.1, .int (zI u.2.2.2.2)])), (aL, .inl (cI, 4, .inl ml)), (aF, .inl (cJ, 5, .inr (.inl mf))), (aS, .inl (cJ, 5, .inr (.inl ms))), (aT, .inl (cJ, 4, .inr (.inl u.1))), (aB, .inl (cJ, 4, .inr (.inl u.2.2.1)))] sz)) 0 0 (va_A [(h, .inr (1, [.ref aL, .int (nI n), .ref aF, .ref aS, .ref aT, .long u.2.1, .ref aB, .long u.2.2.2.1, .int (zI u.2.2.2.2)])), (aL, .inl (cI, 4, .inl ml)), (aF, .inl (cJ, 5, .inr (.inl mf))), (aS, .inl (cJ, 5, .inr (.inl ms))), (aT, .inl (cJ, 4, .inr (.inl u.1))), (aB, .inl (cJ, 4, .inr (.inl u.2.2.1)))] sz) := by
  refine k_met (q_M_forget dC dI cJ cI cZ h aL aF aS aT aB ml n mf ms u) (by decide +kernel) rfl (Nat.le_of_ble_eq_true rfl) ?_
  intro p e s m below meth c A hx hb hr hml hown hts hlocks hin hA H hP hK hD hS ls hl
  have hl : lv_has ls 1 [(0, .ref h)] := hl
  have hown : s.vm.findClass R_M = some m.cls := hown
  have hts : ∀ wW ∈ kT, wW.before [.ref h].toArray s = true := fun wW hW => hts wW (List.mem_cons_of_mem _ hW)
  refine lv_aload_n hx hb d_M_forget_0 rfl (lv_at hl 0 rfl) ?_
  refine lv_iconst (v := nI 0) hx hb d_M_forget_1 (by decide) ?_
  refine va_put (D := (dC, dI)) (ci := 1) (v := .int (nI 0)) (ty := .int) (C := R_M) (T := T_M) (N := 9) hx hb hts iT_M t_M t_M_ok n_M hown hK hP hD hS 0 rfl rfl 1 (by decide) (hts _ wd_37) (fun _ h9 => h9) rfl (by decide +kernel) rfl rfl (Nat.le_of_ble_eq_true rfl) d_M_forget_2 (fun H locs hP hD hS => ?_)
  have hP : va_P (dC, dI) vwCl [(h, .inr (1, [.ref aL, .int (nI 0), .ref aF, .ref aS, .ref aT, .long u.2.1, .ref aB, .long u.2.2.2.1, .int (zI u.2.2.2.2)])), (aL, .inl (cI, 4, .inl ml)), (aF, .inl (cJ, 5, .inr (.inl mf))), (aS, .inl (cJ, 5, .inr (.inl ms))), (aT, .inl (cJ, 4, .inr (.inl u.1))), (aB, .inl (cJ, 4, .inr (.inl u.2.2.1)))] H := hP
  have hD : va_D A [(h, .inr (1, [.ref aL, .int (nI 0), .ref aF, .ref aS, .ref aT, .long u.2.1, .ref aB, .long u.2.2.2.1, .int (zI u.2.2.2.2)])), (aL, .inl (cI, 4, .inl ml)), (aF, .inl (cJ, 5, .inr (.inl mf))), (aS, .inl (cJ, 5, .inr (.inl ms))), (aT, .inl (cJ, 4, .inr (.inl u.1))), (aB, .inl (cJ, 4, .inr (.inl u.2.2.1)))] := hD
  refine lv_aload_n hx hb d_M_forget_5 rfl (lv_at hl 0 rfl) ?_
  refine lv_iconst (v := nI 0) hx hb d_M_forget_6 (by decide) ?_
  refine k_toi (y := zI false) (by decide) ?_
  refine va_put (D := (dC, dI)) (ci := 1) (v := .int (zI false)) (ty := .boolean) (C := R_M) (T := T_M) (N := 9) hx hb hts iT_M t_M t_M_ok n_M hown hK hP hD hS 0 rfl rfl 8 (by decide) (hts _ wd_44) (fun _ h9 => h9) rfl (by decide +kernel) rfl rfl (Nat.le_of_ble_eq_true rfl) d_M_forget_7 (fun H locs hP hD hS => ?_)
  have hP : va_P (dC, dI) vwCl [(h, .inr (1, [.ref aL, .int (nI 0), .ref aF, .ref aS, .ref aT, .long u.2.1, .ref aB, .long u.2.2.2.1, .int (zI false)])), (aL, .inl (cI, 4, .inl ml)), (aF, .inl (cJ, 5, .inr (.inl mf))), (aS, .inl (cJ, 5, .inr (.inl ms))), (aT, .inl (cJ, 4, .inr (.inl u.1))), (aB, .inl (cJ, 4, .inr (.inl u.2.2.1)))] H := hP
  have hD : va_D A [(h, .inr (1, [.ref aL, .int (nI 0), .ref aF, .ref aS, .ref aT, .long u.2.1, .ref aB, .long u.2.2.2.1, .int (zI false)])), (aL, .inl (cI, 4, .inl ml)), (aF, .inl (cJ, 5, .inr (.inl mf))), (aS, .inl (cJ, 5, .inr (.inl ms))), (aT, .inl (cJ, 4, .inr (.inl u.1))), (aB, .inl (cJ, 4, .inr (.inl u.2.2.1)))] := hD
  exact k_vret hx hb hr hlocks () trivial hP hD hK hS [0, 1, 2, 3, 4, 5] (by decide) rfl d_M_forget_10
/-- one lot more -/
abbrev q_M_add (dC : Nat → ClassId) (dI : Nat → Nat → Nat) (cJ cI cZ : ClassId) (h : Nat) (aL : Nat) (aF : Nat) (aS : Nat) (aT : Nat) (aB : Nat) (ml : Nat → Int32) (n : Nat) (mf : Nat → Int64) (ms : Nat → Int64) (u : MixS) (x : Int32) (f : Int64) (g : Int64) (A : Nat → Prop) : Array Value → State → Outcome → State → Prop := va_Qv (fun (_ : Unit) => True) (kB (dC, dI) vwCl [(cJ, .long), (cI, .int), (cZ, .boolean)] A (fun (_ : Unit) => [(h, .inr (1, [.ref aL, .int (nI (n + 1)), .ref aF, .ref aS, .ref aT, .long u.2.1, .ref aB, .long u.2.2.2.1, .int (zI u.2.2.2.2)])), (aL, .inl (cI, 4, .inl (upd ml n x))), (aF, .inl (cJ, 5, .inr (.inl (vp_updL mf n f)))), (aS, .inl (cJ, 5, .inr (.inl (vp_updL ms n g)))), (aT, .inl (cJ, 4, .inr (.inl u.1))), (aB, .inl (cJ, 4, .inr (.inl u.2.2.1)))])) A
set_option maxHeartbeats 4000000 in
set_option maxRecDepth 100000 in
theorem k_M_add (l : Launch) (dC : Nat → ClassId) (dI : Nat → Nat → Nat) (cJ cI cZ : ClassId) (sz : Nat) (h : Nat) (aL : Nat) (aF : Nat) (aS : Nat) (aT : Nat) (aB : Nat) (ml : Nat → Int32) (n : Nat) (mf : Nat → Int64) (ms : Nat → Int64) (u : MixS) (x : Int32) (f : Int64) (g : Int64) (hn : n < 4) : Met l y_M_add w_M_add { frames := 0, cells := 0, slots := 0, locals := 0 } (kPc (dC, dI) vwCl [(cJ, .long), (cI, .int), (cZ, .boolean)] [(h, .inr (1, [.ref aL, .int (nI n), .ref aF, .ref aS, .ref aT, .long u.2.1, .ref aB, .long u.2.2.2.1, .int (zI u.2.2.2.2)])), (aL, .inl (cI, 4, .inl ml)), (aF, .inl (cJ, 5, .inr (.inl mf))), (aS, .inl (cJ, 5, .inr (.inl ms))), (aT, .inl (cJ, 4, .inr (.inl u.1))), (aB, .inl (cJ, 4, .inr (.inl u.2.2.1)))] sz [.ref h, .int x, .long f, .long g]) (q_M_add dC dI cJ cI cZ h aL aF aS aT aB ml n mf ms u x f g (va_A [(h, .inr (1, [.ref aL, .int (nI n), .ref aF, .ref aS, .ref aT, .long u.2.1, .ref aB, .long u.2.2.2.1, .int (zI u.2.2.2.2)])), (aL, .inl (cI, 4, .inl ml)), (aF, .inl (cJ, 5, .inr (.inl mf))), (aS, .inl (cJ, 5, .inr (.inl ms))), (aT, .inl (cJ, 4, .inr (.inl u.1))), (aB, .inl (cJ, 4, .inr (.inl u.2.2.1)))] sz)) 0 0 (va_A [(h, .inr (1, [.ref aL, .int (nI n), .ref aF, .ref aS, .ref aT, .long u.2.1, .ref aB, .long u.2.2.2.1, .int (zI u.2.2.2.2)])), (aL, .inl (cI, 4, .inl ml)), (aF, .inl (cJ, 5, .inr (.inl mf))), (aS, .inl (cJ, 5, .inr (.inl ms))), (aT, .inl (cJ, 4, .inr (.inl u.1))), (aB, .inl (cJ, 4, .inr (.inl u.2.2.1)))] sz) := by
  refine k_met (q_M_add dC dI cJ cI cZ h aL aF aS aT aB ml n mf ms u x f g) (by decide +kernel) rfl (Nat.le_of_ble_eq_true rfl) ?_
  intro p e s m below meth c A hx hb hr hml hown hts hlocks hin hA H hP hK hD hS ls hl
  have hl : lv_has ls 6 [(0, .ref h), (1, .int x), (2, .long f), (4, .long g)] := hl
  have hown : s.vm.findClass R_M = some m.cls := hown
  have hts : ∀ wW ∈ kT, wW.before [.ref h, .int x, .long f, .long g].toArray s = true := fun wW hW => hts wW (List.mem_cons_of_mem _ hW)
  refine lv_aload_n hx hb d_M_add_0 rfl (lv_at hl 0 rfl) ?_
  refine va_get (D := (dC, dI)) (ci := 1) (v := .int (nI n)) (C := R_M) (T := T_M) (N := 9) hx hb hts iT_M hown hK hP 0 rfl rfl 1 (by decide) (hts _ wd_37) (fun _ h9 => h9) rfl d_M_add_1 ?_
  refine lv_iconst (v := nI 4) hx hb d_M_add_4 (by decide) ?_
  refine k_nlt (tgt := 9) hx hb d_M_add_5 (by decide) (by omega) (by omega) (fun c_5 => ?_) (fun c_5 => ?_)
  · refine lv_aload_n hx hb d_M_add_9 rfl (lv_at hl 0 rfl) ?_
    refine va_get (D := (dC, dI)) (ci := 1) (v := .ref aL) (C := R_M) (T := T_M) (N := 9) hx hb hts iT_M hown hK hP 0 rfl rfl 0 (by decide) (hts _ wd_36) (fun _ h9 => h9) rfl d_M_add_10 ?_
    refine lv_aload_n hx hb d_M_add_13 rfl (lv_at hl 0 rfl) ?_
    refine va_get (D := (dC, dI)) (ci := 1) (v := .int (nI n)) (C := R_M) (T := T_M) (N := 9) hx hb hts iT_M hown hK hP 0 rfl rfl 1 (by decide) (hts _ wd_37) (fun _ h9 => h9) rfl d_M_add_14 ?_
    refine lv_iload_n hx hb d_M_add_17 rfl (lv_at hl 1 rfl) ?_
    refine k_iast (j := n) hx hb hK hP hD hS 1 1 rfl rfl (by omega) (by decide) d_M_add_18 (fun H locs hP hD hS => ?_)
    have hP : va_P (dC, dI) vwCl [(h, .inr (1, [.ref aL, .int (nI n), .ref aF, .ref aS, .ref aT, .long u.2.1, .ref aB, .long u.2.2.2.1, .int (zI u.2.2.2.2)])), (aL, .inl (cI, 4, .inl (upd ml n x))), (aF, .inl (cJ, 5, .inr (.inl mf))), (aS, .inl (cJ, 5, .inr (.inl ms))), (aT, .inl (cJ, 4, .inr (.inl u.1))), (aB, .inl (cJ, 4, .inr (.inl u.2.2.1)))] H := hP
    have hD : va_D A [(h, .inr (1, [.ref aL, .int (nI n), .ref aF, .ref aS, .ref aT, .long u.2.1, .ref aB, .long u.2.2.2.1, .int (zI u.2.2.2.2)])), (aL, .inl (cI, 4, .inl (upd ml n x))), (aF, .inl (cJ, 5, .inr (.inl mf))), (aS, .inl (cJ, 5, .inr (.inl ms))), (aT, .inl (cJ, 4, .inr (.inl u.1))), (aB, .inl (cJ, 4, .inr (.inl u.2.2.1)))] := hD
    refine lv_aload_n hx hb d_M_add_19 rfl (lv_at hl 0 rfl) ?_
    refine va_get (D := (dC, dI)) (ci := 1) (v := .ref aF) (C := R_M) (T := T_M) (N := 9) hx hb hts iT_M hown hK hP 0 rfl rfl 2 (by decide) (hts _ wd_38) (fun _ h9 => h9) rfl d_M_add_20 ?_
    refine lv_aload_n hx hb d_M_add_23 rfl (lv_at hl 0 rfl) ?_
    refine va_get (D := (dC, dI)) (ci := 1) (v := .int (nI n)) (C := R_M) (T := T_M) (N := 9) hx hb hts iT_M hown hK hP 0 rfl rfl 1 (by decide) (hts _ wd_37) (fun _ h9 => h9) rfl d_M_add_24 ?_
    refine lv_lload_n hx hb d_M_add_27 rfl (lv_at hl 2 rfl) ?_
    refine k_last (j := n) hx hb hK hP hD hS 2 0 rfl rfl (by omega) (by decide) d_M_add_28 (fun H locs hP hD hS => ?_)
    have hP : va_P (dC, dI) vwCl [(h, .inr (1, [.ref aL, .int (nI n), .ref aF, .ref aS, .ref aT, .long u.2.1, .ref aB, .long u.2.2.2.1, .int (zI u.2.2.2.2)])), (aL, .inl (cI, 4, .inl (upd ml n x))), (aF, .inl (cJ, 5, .inr (.inl (vp_updL mf n f)))), (aS, .inl (cJ, 5, .inr (.inl ms))), (aT, .inl (cJ, 4, .inr (.inl u.1))), (aB, .inl (cJ, 4, .inr (.inl u.2.2.1)))] H := hP
    have hD : va_D A [(h, .inr (1, [.ref aL, .int (nI n), .ref aF, .ref aS, .ref aT, .long u.2.1, .ref aB, .long u.2.2.2.1, .int (zI u.2.2.2.2)])), (aL, .inl (cI, 4, .inl (upd ml n x))), (aF, .inl (cJ, 5, .inr (.inl (vp_updL mf n f)))), (aS, .inl (cJ, 5, .inr (.inl ms))), (aT, .inl (cJ, 4, .inr (.inl u.1))), (aB, .inl (cJ, 4, .inr (.inl u.2.2.1)))] := hD
    refine lv_aload_n hx hb d_M_add_29 rfl (lv_at hl 0 rfl) ?_
    refine va_get (D := (dC, dI)) (ci := 1) (v := .ref aS) (C := R_M) (T := T_M) (N := 9) hx hb hts iT_M hown hK hP 0 rfl rfl 3 (by decide) (hts _ wd_39) (fun _ h9 => h9) rfl d_M_add_30 ?_
    refine lv_aload_n hx hb d_M_add_33 rfl (lv_at hl 0 rfl) ?_
    refine va_get (D := (dC, dI)) (ci := 1) (v := .int (nI n)) (C := R_M) (T := T_M) (N := 9) hx hb hts iT_M hown hK hP 0 rfl rfl 1 (by decide) (hts _ wd_37) (fun _ h9 => h9) rfl d_M_add_34 ?_
    refine lv_lload hx hb d_M_add_37 (lv_at hl 3 rfl) ?_
    refine k_last (j := n) hx hb hK hP hD hS 3 0 rfl rfl (by omega) (by decide) d_M_add_39 (fun H locs hP hD hS => ?_)
    have hP : va_P (dC, dI) vwCl [(h, .inr (1, [.ref aL, .int (nI n), .ref aF, .ref aS, .ref aT, .long u.2.1, .ref aB, .long u.2.2.2.1, .int (zI u.2.2.2.2)])), (aL, .inl (cI, 4, .inl (upd ml n x))), (aF, .inl (cJ, 5, .inr (.inl (vp_updL mf n f)))), (aS, .inl (cJ, 5, .inr (.inl (vp_updL ms n g)))), (aT, .inl (cJ, 4, .inr (.inl u.1))), (aB, .inl (cJ, 4, .inr (.inl u.2.2.1)))] H := hP
    have hD : va_D A [(h, .inr (1, [.ref aL, .int (nI n), .ref aF, .ref aS, .ref aT, .long u.2.1, .ref aB, .long u.2.2.2.1, .int (zI u.2.2.2.2)])), (aL, .inl (cI, 4, .inl (upd ml n x))), (aF, .inl (cJ, 5, .inr (.inl (vp_updL mf n f)))), (aS, .inl (cJ, 5, .inr (.inl (vp_updL ms n g)))), (aT, .inl (cJ, 4, .inr (.inl u.1))), (aB, .inl (cJ, 4, .inr (.inl u.2.2.1)))] := hD
    refine lv_aload_n hx hb d_M_add_40 rfl (lv_at hl 0 rfl) ?_
    refine lv_dup hx hb d_M_add_41 rfl ?_
    refine va_get (D := (dC, dI)) (ci := 1) (v := .int (nI n)) (C := R_M) (T := T_M) (N := 9) hx hb hts iT_M hown hK hP 0 rfl rfl 1 (by decide) (hts _ wd_37) (fun _ h9 => h9) rfl d_M_add_42 ?_
    refine lv_iconst (v := nI 1) hx hb d_M_add_45 (by decide) ?_
    refine lv_iadd hx hb d_M_add_46 ?_
    refine k_toi (nI_add n 1) ?_
    refine va_put (D := (dC, dI)) (ci := 1) (v := .int (nI (n + 1))) (ty := .int) (C := R_M) (T := T_M) (N := 9) hx hb hts iT_M t_M t_M_ok n_M hown hK hP hD hS 0 rfl rfl 1 (by decide) (hts _ wd_37) (fun _ h9 => h9) rfl (by decide +kernel) rfl rfl (Nat.le_of_ble_eq_true rfl) d_M_add_47 (fun H locs hP hD hS => ?_)
    have hP : va_P (dC, dI) vwCl [(h, .inr (1, [.ref aL, .int (nI (n + 1)), .ref aF, .ref aS, .ref aT, .long u.2.1, .ref aB, .long u.2.2.2.1, .int (zI u.2.2.2.2)])), (aL, .inl (cI, 4, .inl (upd ml n x))), (aF, .inl (cJ, 5, .inr (.inl (vp_updL mf n f)))), (aS, .inl (cJ, 5, .inr (.inl (vp_updL ms n g)))), (aT, .inl (cJ, 4, .inr (.inl u.1))), (aB, .inl (cJ, 4, .inr (.inl u.2.2.1)))] H := hP
    have hD : va_D A [(h, .inr (1, [.ref aL, .int (nI (n + 1)), .ref aF, .ref aS, .ref aT, .long u.2.1, .ref aB, .long u.2.2.2.1, .int (zI u.2.2.2.2)])), (aL, .inl (cI, 4, .inl (upd ml n x))), (aF, .inl (cJ, 5, .inr (.inl (vp_updL mf n f)))), (aS, .inl (cJ, 5, .inr (.inl (vp_updL ms n g)))), (aT, .inl (cJ, 4, .inr (.inl u.1))), (aB, .inl (cJ, 4, .inr (.inl u.2.2.1)))] := hD
    exact k_vret hx hb hr hlocks () trivial hP hD hK hS [0, 1, 2, 3, 4, 5] (by decide) rfl d_M_add_50
  · exact absurd c_5 (by omega)
/-- M_isMet -/
abbrev q_M_isMet (dC : Nat → ClassId) (dI : Nat → Nat → Nat) (cJ cI cZ : ClassId) (h : Nat) (aL : Nat) (aF : Nat) (aS : Nat) (aT : Nat) (aB : Nat) (ml : Nat → Int32) (n : Nat) (mf : Nat → Int64) (ms : Nat → Int64) (u : MixS) (A : Nat → Prop) : Array Value → State → Outcome → State → Prop := va_Qi (fun (r : Int32) (_ : Unit) => r = zI u.2.2.2.2) (kB (dC, dI) vwCl [(cJ, .long), (cI, .int), (cZ, .boolean)] A (fun (_ : Unit) => [(h, .inr (1, [.ref aL, .int (nI n), .ref aF, .ref aS, .ref aT, .long u.2.1, .ref aB, .long u.2.2.2.1, .int (zI u.2.2.2.2)])), (aL, .inl (cI, 4, .inl ml)), (aF, .inl (cJ, 5, .inr (.inl mf))), (aS, .inl (cJ, 5, .inr (.inl ms))), (aT, .inl (cJ, 4, .inr (.inl u.1))), (aB, .inl (cJ, 4, .inr (.inl u.2.2.1)))])) A
set_option maxHeartbeats 4000000 in
set_option maxRecDepth 100000 in
theorem k_M_isMet (l : Launch) (dC : Nat → ClassId) (dI : Nat → Nat → Nat) (cJ cI cZ : ClassId) (sz : Nat) (h : Nat) (aL : Nat) (aF : Nat) (aS : Nat) (aT : Nat) (aB : Nat) (ml : Nat → Int32) (n : Nat) (mf : Nat → Int64) (ms : Nat → Int64) (u : MixS)  : Met l y_M_isMet w_M_isMet { frames := 0, cells := 0, slots := 0, locals := 0 } (kPc (dC, dI) vwCl [(cJ, .long), (cI, .int), (cZ, .boolean)] [(h, .inr (1, [.ref aL, .int (nI n), .ref aF, .ref aS, .ref aT, .long u.2.1, .ref aB, .long u.2.2.2.1, .int (zI u.2.2.2.2)])), (aL, .inl (cI, 4, .inl ml)), (aF, .inl (cJ, 5, .inr (.inl mf))), (aS, .inl (cJ, 5, .inr (.inl ms))), (aT, .inl (cJ, 4, .inr (.inl u.1))), (aB, .inl (cJ, 4, .inr (.inl u.2.2.1)))] sz [.ref h]) (q_M_isMet dC dI cJ cI cZ h aL aF aS aT aB ml n mf ms u (va_A [(h, .inr (1, [.ref aL, .int (nI n), .ref aF, .ref aS, .ref aT, .long u.2.1, .ref aB, .long u.2.2.2.1, .int (zI u.2.2.2.2)])), (aL, .inl (cI, 4, .inl ml)), (aF, .inl (cJ, 5, .inr (.inl mf))), (aS, .inl (cJ, 5, .inr (.inl ms))), (aT, .inl (cJ, 4, .inr (.inl u.1))), (aB, .inl (cJ, 4, .inr (.inl u.2.2.1)))] sz)) 0 0 (va_A [(h, .inr (1, [.ref aL, .int (nI n), .ref aF, .ref aS, .ref aT, .long u.2.1, .ref aB, .long u.2.2.2.1, .int (zI u.2.2.2.2)])), (aL, .inl (cI, 4, .inl ml)), (aF, .inl (cJ, 5, .inr (.inl mf))), (aS, .inl (cJ, 5, .inr (.inl ms))), (aT, .inl (cJ, 4, .inr (.inl u.1))), (aB, .inl (cJ, 4, .inr (.inl u.2.2.1)))] sz) := by
  refine k_met (q_M_isMet dC dI cJ cI cZ h aL aF aS aT aB ml n mf ms u) (by decide +kernel) rfl (Nat.le_of_ble_eq_true rfl) ?_
  intro p e s m below meth c A hx hb hr hml hown hts hlocks hin hA H hP hK hD hS ls hl
  have hl : lv_has ls 1 [(0, .ref h)] := hl
  have hown : s.vm.findClass R_M = some m.cls := hown
  have hts : ∀ wW ∈ kT, wW.before [.ref h].toArray s = true := fun wW hW => hts wW (List.mem_cons_of_mem _ hW)
  refine lv_aload_n hx hb d_M_isMet_0 rfl (lv_at hl 0 rfl) ?_
  refine va_get (D := (dC, dI)) (ci := 1) (v := .int (zI u.2.2.2.2)) (C := R_M) (T := T_M) (N := 9) hx hb hts iT_M hown hK hP 0 rfl rfl 8 (by decide) (hts _ wd_44) (fun _ h9 => h9) rfl d_M_isMet_1 ?_
  exact k_zret (v := zI u.2.2.2.2) hx hb hr hlocks (k_zn _) () rfl hP hD hK hS [0, 1, 2, 3, 4, 5] (by decide) rfl d_M_isMet_4
/-- M_belowOfAll -/
abbrev q_M_belowOfAll (dC : Nat → ClassId) (dI : Nat → Nat → Nat) (cJ cI cZ : ClassId) (h : Nat) (aL : Nat) (aF : Nat) (aS : Nat) (aT : Nat) (aB : Nat) (ml : Nat → Int32) (n : Nat) (mf : Nat → Int64) (ms : Nat → Int64) (u : MixS) (A : Nat → Prop) : Array Value → State → Outcome → State → Prop := va_Ql (fun (r : Int64) (_ : Unit) => r = u.2.2.2.1) (kB (dC, dI) vwCl [(cJ, .long), (cI, .int), (cZ, .boolean)] A (fun (_ : Unit) => [(h, .inr (1, [.ref aL, .int (nI n), .ref aF, .ref aS, .ref aT, .long u.2.1, .ref aB, .long u.2.2.2.1, .int (zI u.2.2.2.2)])), (aL, .inl (cI, 4, .inl ml)), (aF, .inl (cJ, 5, .inr (.inl mf))), (aS, .inl (cJ, 5, .inr (.inl ms))), (aT, .inl (cJ, 4, .inr (.inl u.1))), (aB, .inl (cJ, 4, .inr (.inl u.2.2.1)))])) A
set_option maxHeartbeats 4000000 in
set_option maxRecDepth 100000 in
theorem k_M_belowOfAll (l : Launch) (dC : Nat → ClassId) (dI : Nat → Nat → Nat) (cJ cI cZ : ClassId) (sz : Nat) (h : Nat) (aL : Nat) (aF : Nat) (aS : Nat) (aT : Nat) (aB : Nat) (ml : Nat → Int32) (n : Nat) (mf : Nat → Int64) (ms : Nat → Int64) (u : MixS)  : Met l y_M_belowOfAll w_M_belowOfAll { frames := 0, cells := 0, slots := 0, locals := 0 } (kPc (dC, dI) vwCl [(cJ, .long), (cI, .int), (cZ, .boolean)] [(h, .inr (1, [.ref aL, .int (nI n), .ref aF, .ref aS, .ref aT, .long u.2.1, .ref aB, .long u.2.2.2.1, .int (zI u.2.2.2.2)])), (aL, .inl (cI, 4, .inl ml)), (aF, .inl (cJ, 5, .inr (.inl mf))), (aS, .inl (cJ, 5, .inr (.inl ms))), (aT, .inl (cJ, 4, .inr (.inl u.1))), (aB, .inl (cJ, 4, .inr (.inl u.2.2.1)))] sz [.ref h]) (q_M_belowOfAll dC dI cJ cI cZ h aL aF aS aT aB ml n mf ms u (va_A [(h, .inr (1, [.ref aL, .int (nI n), .ref aF, .ref aS, .ref aT, .long u.2.1, .ref aB, .long u.2.2.2.1, .int (zI u.2.2.2.2)])), (aL, .inl (cI, 4, .inl ml)), (aF, .inl (cJ, 5, .inr (.inl mf))), (aS, .inl (cJ, 5, .inr (.inl ms))), (aT, .inl (cJ, 4, .inr (.inl u.1))), (aB, .inl (cJ, 4, .inr (.inl u.2.2.1)))] sz)) 0 0 (va_A [(h, .inr (1, [.ref aL, .int (nI n), .ref aF, .ref aS, .ref aT, .long u.2.1, .ref aB, .long u.2.2.2.1, .int (zI u.2.2.2.2)])), (aL, .inl (cI, 4, .inl ml)), (aF, .inl (cJ, 5, .inr (.inl mf))), (aS, .inl (cJ, 5, .inr (.inl ms))), (aT, .inl (cJ, 4, .inr (.inl u.1))), (aB, .inl (cJ, 4, .inr (.inl u.2.2.1)))] sz) := by
  refine k_met (q_M_belowOfAll dC dI cJ cI cZ h aL aF aS aT aB ml n mf ms u) (by decide +kernel) rfl (Nat.le_of_ble_eq_true rfl) ?_
  intro p e s m below meth c A hx hb hr hml hown hts hlocks hin hA H hP hK hD hS ls hl
  have hl : lv_has ls 1 [(0, .ref h)] := hl
  have hown : s.vm.findClass R_M = some m.cls := hown
  have hts : ∀ wW ∈ kT, wW.before [.ref h].toArray s = true := fun wW hW => hts wW (List.mem_cons_of_mem _ hW)
  refine lv_aload_n hx hb d_M_belowOfAll_0 rfl (lv_at hl 0 rfl) ?_
  refine va_get (D := (dC, dI)) (ci := 1) (v := .long u.2.2.2.1) (C := R_M) (T := T_M) (N := 9) hx hb hts iT_M hown hK hP 0 rfl rfl 7 (by decide) (hts _ wd_43) (fun _ h9 => h9) rfl d_M_belowOfAll_1 ?_
  exact k_lret (v := u.2.2.2.1) hx hb hr hlocks () rfl hP hD hK hS [0, 1, 2, 3, 4, 5] (by decide) rfl d_M_belowOfAll_4
/-- M_aboveOf -/
abbrev q_M_aboveOf (dC : Nat → ClassId) (dI : Nat → Nat → Nat) (cJ cI cZ : ClassId) (h : Nat) (aL : Nat) (aF : Nat) (aS : Nat) (aT : Nat) (aB : Nat) (ml : Nat → Int32) (n : Nat) (mf : Nat → Int64) (ms : Nat → Int64) (u : MixS) (x : Int32) (A : Nat → Prop) : Array Value → State → Outcome → State → Prop := va_Ql (fun (r : Int64) (_ : Unit) => r = abF ml n u.2.2.1 x) (kB (dC, dI) vwCl [(cJ, .long), (cI, .int), (cZ, .boolean)] A (fun (_ : Unit) => [(h, .inr (1, [.ref aL, .int (nI n), .ref aF, .ref aS, .ref aT, .long u.2.1, .ref aB, .long u.2.2.2.1, .int (zI u.2.2.2.2)])), (aL, .inl (cI, 4, .inl ml)), (aF, .inl (cJ, 5, .inr (.inl mf))), (aS, .inl (cJ, 5, .inr (.inl ms))), (aT, .inl (cJ, 4, .inr (.inl u.1))), (aB, .inl (cJ, 4, .inr (.inl u.2.2.1)))])) A
set_option maxHeartbeats 4000000 in
set_option maxRecDepth 100000 in
theorem k_M_aboveOf (l : Launch) (dC : Nat → ClassId) (dI : Nat → Nat → Nat) (cJ cI cZ : ClassId) (sz : Nat) (h : Nat) (aL : Nat) (aF : Nat) (aS : Nat) (aT : Nat) (aB : Nat) (ml : Nat → Int32) (n : Nat) (mf : Nat → Int64) (ms : Nat → Int64) (u : MixS) (x : Int32) (hn : n ≤ 4) : Met l y_M_aboveOf w_M_aboveOf { frames := 0, cells := 0, slots := 0, locals := 0 } (kPc (dC, dI) vwCl [(cJ, .long), (cI, .int), (cZ, .boolean)] [(h, .inr (1, [.ref aL, .int (nI n), .ref aF, .ref aS, .ref aT, .long u.2.1, .ref aB, .long u.2.2.2.1, .int (zI u.2.2.2.2)])), (aL, .inl (cI, 4, .inl ml)), (aF, .inl (cJ, 5, .inr (.inl mf))), (aS, .inl (cJ, 5, .inr (.inl ms))), (aT, .inl (cJ, 4, .inr (.inl u.1))), (aB, .inl (cJ, 4, .inr (.inl u.2.2.1)))] sz [.ref h, .int x]) (q_M_aboveOf dC dI cJ cI cZ h aL aF aS aT aB ml n mf ms u x (va_A [(h, .inr (1, [.ref aL, .int (nI n), .ref aF, .ref aS, .ref aT, .long u.2.1, .ref aB, .long u.2.2.2.1, .int (zI u.2.2.2.2)])), (aL, .inl (cI, 4, .inl ml)), (aF, .inl (cJ, 5, .inr (.inl mf))), (aS, .inl (cJ, 5, .inr (.inl ms))), (aT, .inl (cJ, 4, .inr (.inl u.1))), (aB, .inl (cJ, 4, .inr (.inl u.2.2.1)))] sz)) 0 0 (va_A [(h, .inr (1, [.ref aL, .int (nI n), .ref aF, .ref aS, .ref aT, .long u.2.1, .ref aB, .long u.2.2.2.1, .int (zI u.2.2.2.2)])), (aL, .inl (cI, 4, .inl ml)), (aF, .inl (cJ, 5, .inr (.inl mf))), (aS, .inl (cJ, 5, .inr (.inl ms))), (aT, .inl (cJ, 4, .inr (.inl u.1))), (aB, .inl (cJ, 4, .inr (.inl u.2.2.1)))] sz) := by
  refine k_met (q_M_aboveOf dC dI cJ cI cZ h aL aF aS aT aB ml n mf ms u x) (by decide +kernel) rfl (Nat.le_of_ble_eq_true rfl) ?_
  intro p e s m below meth c A hx hb hr hml hown hts hlocks hin hA H hP hK hD hS ls hl
  have hl : lv_has ls 3 [(0, .ref h), (1, .int x)] := hl
  have hown : s.vm.findClass R_M = some m.cls := hown
  have hts : ∀ wW ∈ kT, wW.before [.ref h, .int x].toArray s = true := fun wW hW => hts wW (List.mem_cons_of_mem _ hW)
  refine lv_iconst (v := nI 0) hx hb d_M_aboveOf_0 (by decide) ?_
  refine lv_istore_n (lv' := [(2, .int (nI 0)), (0, .ref h), (1, .int x)]) hx hb d_M_aboveOf_1 rfl hl (by decide) rfl (fun ls hl => ?_)
  have loop_2 : ∀ (fu_2 : Nat) (i : Nat) (hi : i ≤ n) (hv : fdN (fun j => decide (ml j = x)) (n - i) i = fd (fun j => decide (ml j = x)) n) (hfu_2 : n + 1 ≤ i + fu_2) (H : Heap) (locs : List Loc) (ls : Array Slot), va_P (dC, dI) vwCl [(h, .inr (1, [.ref aL, .int (nI n), .ref aF, .ref aS, .ref aT, .long u.2.1, .ref aB, .long u.2.2.2.1, .int (zI u.2.2.2.2)])), (aL, .inl (cI, 4, .inl ml)), (aF, .inl (cJ, 5, .inr (.inl mf))), (aS, .inl (cJ, 5, .inr (.inl ms))), (aT, .inl (cJ, 4, .inr (.inl u.1))), (aB, .inl (cJ, 4, .inr (.inl u.2.2.1)))] H → va_D A [(h, .inr (1, [.ref aL, .int (nI n), .ref aF, .ref aS, .ref aT, .long u.2.1, .ref aB, .long u.2.2.2.1, .int (zI u.2.2.2.2)])), (aL, .inl (cI, 4, .inl ml)), (aF, .inl (cJ, 5, .inr (.inl mf))), (aS, .inl (cJ, 5, .inr (.inl ms))), (aT, .inl (cJ, 4, .inr (.inl u.1))), (aB, .inl (cJ, 4, .inr (.inl u.2.2.1)))] → va_S A s.heap H locs → lv_has ls 3 [(0, .ref h), (1, .int x), (2, .int (nI i))] → W p l e { frames := 0, cells := 0, slots := 0, locals := 0 } s m [.ref h, .int x].toArray below meth c H locs 0 0 (MQ below (q_M_aboveOf dC dI cJ cI cZ h aL aF aS aT aB ml n mf ms u x A) [.ref h, .int x].toArray s 0 0 A) (F0 m 2 ls []) := by
    intro fu_2
    induction fu_2 with
    | zero =>
      intro i hi hv hfu_2 H locs ls hP hD hS hl
      exact absurd hfu_2 (by omega)
    | succ fu_2 ih_2 =>
      intro i hi hv hfu_2 H locs ls hP hD hS hl
      refine lv_iload_n hx hb d_M_aboveOf_2 rfl (lv_at hl 2 rfl) ?_
      refine lv_aload_n hx hb d_M_aboveOf_3 rfl (lv_at hl 0 rfl) ?_
      refine va_get (D := (dC, dI)) (ci := 1) (v := .int (nI n)) (C := R_M) (T := T_M) (N := 9) hx hb hts iT_M hown hK hP 0 rfl rfl 1 (by decide) (hts _ wd_37) (fun _ h9 => h9) rfl d_M_aboveOf_4 ?_
      refine k_nge (tgt := 33) hx hb d_M_aboveOf_7 (by decide) (by omega) (by omega) (fun c_7 => ?_) (fun c_7 => ?_)
      · refine lv_lconst (v := 0) hx hb d_M_aboveOf_33 (by decide) ?_
        exact k_lret (v := 0) hx hb hr hlocks () (by unfold abF; rw [← hv, fdN_end (P := fun j => decide (ml j = x)) c_7, if_neg (by omega)]) hP hD hK hS [0, 1, 2, 3, 4, 5] (by decide) rfl d_M_aboveOf_34
      · refine lv_aload_n hx hb d_M_aboveOf_10 rfl (lv_at hl 0 rfl) ?_
        refine va_get (D := (dC, dI)) (ci := 1) (v := .ref aL) (C := R_M) (T := T_M) (N := 9) hx hb hts iT_M hown hK hP 0 rfl rfl 0 (by decide) (hts _ wd_36) (fun _ h9 => h9) rfl d_M_aboveOf_11 ?_
        refine lv_iload_n hx hb d_M_aboveOf_14 rfl (lv_at hl 2 rfl) ?_
        refine k_iald (j := i) hx hb hK hP 1 1 rfl rfl (by omega) (by decide) d_M_aboveOf_15 ?_
        refine lv_iload_n hx hb d_M_aboveOf_16 rfl (lv_at hl 1 rfl) ?_
        refine lv_icmp_ne (tgt := 27) hx hb d_M_aboveOf_17 (by decide) (fun c_17 => ?_) (fun c_17 => ?_)
        · refine lv_iinc (v := nI (i + 1)) (lv' := [(2, .int (nI (i + 1))), (0, .ref h), (1, .int x)]) hx hb d_M_aboveOf_27 hl (k := 2) rfl (nI_add i 1) (by decide) rfl (fun ls hl => ?_)
          refine lv_goto (tgt := 2) hx hb d_M_aboveOf_30 (by decide) ?_
          exact ih_2 (i + 1) (by omega) ((fdN_go (P := fun j => decide (ml j = x)) c_7 (decide_eq_false c_17)).symm.trans hv) (by omega) _ _ _ hP hD hS (lv_sub hl [1, 2, 0] rfl)
        · refine lv_aload_n hx hb d_M_aboveOf_20 rfl (lv_at hl 0 rfl) ?_
          refine va_get (D := (dC, dI)) (ci := 1) (v := .ref aB) (C := R_M) (T := T_M) (N := 9) hx hb hts iT_M hown hK hP 0 rfl rfl 6 (by decide) (hts _ wd_42) (fun _ h9 => h9) rfl d_M_aboveOf_21 ?_
          refine lv_iload_n hx hb d_M_aboveOf_24 rfl (lv_at hl 2 rfl) ?_
          refine k_lald (j := i) hx hb hK hP 5 0 rfl rfl (by omega) (by decide) d_M_aboveOf_25 ?_
          exact k_lret (v := u.2.2.1 i) hx hb hr hlocks () (by unfold abF; rw [← hv, fdN_hit (P := fun j => decide (ml j = x)) c_7 (decide_eq_true c_17), if_pos c_7]) hP hD hK hS [0, 1, 2, 3, 4, 5] (by decide) rfl d_M_aboveOf_26
  exact loop_2 (n + 1) 0 (by omega) rfl (by omega) _ _ _ hP hD hS (lv_sub hl [1, 2, 0] rfl)
/-- M_product -/
abbrev q_M_product (dC : Nat → ClassId) (dI : Nat → Nat → Nat) (cJ cI cZ : ClassId) (h : Nat) (aL : Nat) (aF : Nat) (aS : Nat) (aT : Nat) (aB : Nat) (ml : Nat → Int32) (n : Nat) (mf : Nat → Int64) (ms : Nat → Int64) (u : MixS) (i : Nat) (j : Nat) (k : Nat) (A : Nat → Prop) : Array Value → State → Outcome → State → Prop := va_Ql (fun (r : Int64) (_ : Unit) => r = prodF mf ms i j k) (kB (dC, dI) vwCl [(cJ, .long), (cI, .int), (cZ, .boolean)] A (fun (_ : Unit) => [(h, .inr (1, [.ref aL, .int (nI n), .ref aF, .ref aS, .ref aT, .long u.2.1, .ref aB, .long u.2.2.2.1, .int (zI u.2.2.2.2)])), (aL, .inl (cI, 4, .inl ml)), (aF, .inl (cJ, 5, .inr (.inl mf))), (aS, .inl (cJ, 5, .inr (.inl ms))), (aT, .inl (cJ, 4, .inr (.inl u.1))), (aB, .inl (cJ, 4, .inr (.inl u.2.2.1)))])) A
set_option maxHeartbeats 4000000 in
set_option maxRecDepth 100000 in
theorem k_M_product (l : Launch) (dC : Nat → ClassId) (dI : Nat → Nat → Nat) (cJ cI cZ : ClassId) (sz : Nat) (h : Nat) (aL : Nat) (aF : Nat) (aS : Nat) (aT : Nat) (aB : Nat) (ml : Nat → Int32) (n : Nat) (mf : Nat → Int64) (ms : Nat → Int64) (u : MixS) (i : Nat) (j : Nat) (k : Nat) (hi : i < 5) (hj : j < 5) (hk : k < 5) : Met l y_M_product w_M_product { frames := 0, cells := 0, slots := 0, locals := 0 } (kPc (dC, dI) vwCl [(cJ, .long), (cI, .int), (cZ, .boolean)] [(h, .inr (1, [.ref aL, .int (nI n), .ref aF, .ref aS, .ref aT, .long u.2.1, .ref aB, .long u.2.2.2.1, .int (zI u.2.2.2.2)])), (aL, .inl (cI, 4, .inl ml)), (aF, .inl (cJ, 5, .inr (.inl mf))), (aS, .inl (cJ, 5, .inr (.inl ms))), (aT, .inl (cJ, 4, .inr (.inl u.1))), (aB, .inl (cJ, 4, .inr (.inl u.2.2.1)))] sz [.ref h, .int (nI i), .int (nI j), .int (nI k)]) (q_M_product dC dI cJ cI cZ h aL aF aS aT aB ml n mf ms u i j k (va_A [(h, .inr (1, [.ref aL, .int (nI n), .ref aF, .ref aS, .ref aT, .long u.2.1, .ref aB, .long u.2.2.2.1, .int (zI u.2.2.2.2)])), (aL, .inl (cI, 4, .inl ml)), (aF, .inl (cJ, 5, .inr (.inl mf))), (aS, .inl (cJ, 5, .inr (.inl ms))), (aT, .inl (cJ, 4, .inr (.inl u.1))), (aB, .inl (cJ, 4, .inr (.inl u.2.2.1)))] sz)) 0 0 (va_A [(h, .inr (1, [.ref aL, .int (nI n), .ref aF, .ref aS, .ref aT, .long u.2.1, .ref aB, .long u.2.2.2.1, .int (zI u.2.2.2.2)])), (aL, .inl (cI, 4, .inl ml)), (aF, .inl (cJ, 5, .inr (.inl mf))), (aS, .inl (cJ, 5, .inr (.inl ms))), (aT, .inl (cJ, 4, .inr (.inl u.1))), (aB, .inl (cJ, 4, .inr (.inl u.2.2.1)))] sz) := by
  refine k_met (q_M_product dC dI cJ cI cZ h aL aF aS aT aB ml n mf ms u i j k) (by decide +kernel) rfl (Nat.le_of_ble_eq_true rfl) ?_
  intro p e s m below meth c A hx hb hr hml hown hts hlocks hin hA H hP hK hD hS ls hl
  have hl : lv_has ls 4 [(0, .ref h), (1, .int (nI i)), (2, .int (nI j)), (3, .int (nI k))] := hl
  have hown : s.vm.findClass R_M = some m.cls := hown
  have hts : ∀ wW ∈ kT, wW.before [.ref h, .int (nI i), .int (nI j), .int (nI k)].toArray s = true := fun wW hW => hts wW (List.mem_cons_of_mem _ hW)
  refine lv_aload_n hx hb d_M_product_0 rfl (lv_at hl 0 rfl) ?_
  refine va_get (D := (dC, dI)) (ci := 1) (v := .ref aF) (C := R_M) (T := T_M) (N := 9) hx hb hts iT_M hown hK hP 0 rfl rfl 2 (by decide) (hts _ wd_38) (fun _ h9 => h9) rfl d_M_product_1 ?_
  refine lv_iload_n hx hb d_M_product_4 rfl (lv_at hl 2 rfl) ?_
  refine k_lald (j := j) hx hb hK hP 2 0 rfl rfl (by omega) (by decide) d_M_product_5 ?_
  refine lv_aload_n hx hb d_M_product_6 rfl (lv_at hl 0 rfl) ?_
  refine va_get (D := (dC, dI)) (ci := 1) (v := .ref aF) (C := R_M) (T := T_M) (N := 9) hx hb hts iT_M hown hK hP 0 rfl rfl 2 (by decide) (hts _ wd_38) (fun _ h9 => h9) rfl d_M_product_7 ?_
  refine lv_iload_n hx hb d_M_product_10 rfl (lv_at hl 1 rfl) ?_
  refine k_lald (j := i) hx hb hK hP 2 0 rfl rfl (by omega) (by decide) d_M_product_11 ?_
  refine lv_lsub hx hb d_M_product_12 ?_
  refine lv_aload_n hx hb d_M_product_13 rfl (lv_at hl 0 rfl) ?_
  refine va_get (D := (dC, dI)) (ci := 1) (v := .ref aF) (C := R_M) (T := T_M) (N := 9) hx hb hts iT_M hown hK hP 0 rfl rfl 2 (by decide) (hts _ wd_38) (fun _ h9 => h9) rfl d_M_product_14 ?_
  refine lv_iload_n hx hb d_M_product_17 rfl (lv_at hl 3 rfl) ?_
  refine k_lald (j := k) hx hb hK hP 2 0 rfl rfl (by omega) (by decide) d_M_product_18 ?_
  refine lv_aload_n hx hb d_M_product_19 rfl (lv_at hl 0 rfl) ?_
  refine va_get (D := (dC, dI)) (ci := 1) (v := .ref aF) (C := R_M) (T := T_M) (N := 9) hx hb hts iT_M hown hK hP 0 rfl rfl 2 (by decide) (hts _ wd_38) (fun _ h9 => h9) rfl d_M_product_20 ?_
  refine lv_iload_n hx hb d_M_product_23 rfl (lv_at hl 1 rfl) ?_
  refine k_lald (j := i) hx hb hK hP 2 0 rfl rfl (by omega) (by decide) d_M_product_24 ?_
  refine lv_lsub hx hb d_M_product_25 ?_
  refine lv_lmul hx hb d_M_product_26 ?_
  refine lv_aload_n hx hb d_M_product_27 rfl (lv_at hl 0 rfl) ?_
  refine va_get (D := (dC, dI)) (ci := 1) (v := .ref aS) (C := R_M) (T := T_M) (N := 9) hx hb hts iT_M hown hK hP 0 rfl rfl 3 (by decide) (hts _ wd_39) (fun _ h9 => h9) rfl d_M_product_28 ?_
  refine lv_iload_n hx hb d_M_product_31 rfl (lv_at hl 2 rfl) ?_
  refine k_lald (j := j) hx hb hK hP 3 0 rfl rfl (by omega) (by decide) d_M_product_32 ?_
  refine lv_aload_n hx hb d_M_product_33 rfl (lv_at hl 0 rfl) ?_
  refine va_get (D := (dC, dI)) (ci := 1) (v := .ref aS) (C := R_M) (T := T_M) (N := 9) hx hb hts iT_M hown hK hP 0 rfl rfl 3 (by decide) (hts _ wd_39) (fun _ h9 => h9) rfl d_M_product_34 ?_
  refine lv_iload_n hx hb d_M_product_37 rfl (lv_at hl 1 rfl) ?_
  refine k_lald (j := i) hx hb hK hP 3 0 rfl rfl (by omega) (by decide) d_M_product_38 ?_
  refine lv_lsub hx hb d_M_product_39 ?_
  refine lv_aload_n hx hb d_M_product_40 rfl (lv_at hl 0 rfl) ?_
  refine va_get (D := (dC, dI)) (ci := 1) (v := .ref aS) (C := R_M) (T := T_M) (N := 9) hx hb hts iT_M hown hK hP 0 rfl rfl 3 (by decide) (hts _ wd_39) (fun _ h9 => h9) rfl d_M_product_41 ?_
  refine lv_iload_n hx hb d_M_product_44 rfl (lv_at hl 3 rfl) ?_
  refine k_lald (j := k) hx hb hK hP 3 0 rfl rfl (by omega) (by decide) d_M_product_45 ?_
  refine lv_aload_n hx hb d_M_product_46 rfl (lv_at hl 0 rfl) ?_
  refine va_get (D := (dC, dI)) (ci := 1) (v := .ref aS) (C := R_M) (T := T_M) (N := 9) hx hb hts iT_M hown hK hP 0 rfl rfl 3 (by decide) (hts _ wd_39) (fun _ h9 => h9) rfl d_M_product_47 ?_
  refine lv_iload_n hx hb d_M_product_50 rfl (lv_at hl 1 rfl) ?_
  refine k_lald (j := i) hx hb hK hP 3 0 rfl rfl (by omega) (by decide) d_M_product_51 ?_
  refine lv_lsub hx hb d_M_product_52 ?_
  refine lv_lmul hx hb d_M_product_53 ?_
  refine lv_ladd hx hb d_M_product_54 ?_
  exact k_lret (v := (((mf j) - (mf i)) * ((mf k) - (mf i))) + (((ms j) - (ms i)) * ((ms k) - (ms i)))) hx hb hr hlocks () rfl hP hD hK hS [0, 1, 2, 3, 4, 5] (by decide) rfl d_M_product_55
/-- M_doubleArea -/
abbrev q_M_doubleArea (dC : Nat → ClassId) (dI : Nat → Nat → Nat) (cJ cI cZ : ClassId) (h : Nat) (aL : Nat) (aF : Nat) (aS : Nat) (aT : Nat) (aB : Nat) (ml : Nat → Int32) (n : Nat) (mf : Nat → Int64) (ms : Nat → Int64) (u : MixS) (i : Nat) (j : Nat) (k : Nat) (A : Nat → Prop) : Array Value → State → Outcome → State → Prop := va_Ql (fun (r : Int64) (_ : Unit) => r = areaF mf ms i j k) (kB (dC, dI) vwCl [(cJ, .long), (cI, .int), (cZ, .boolean)] A (fun (_ : Unit) => [(h, .inr (1, [.ref aL, .int (nI n), .ref aF, .ref aS, .ref aT, .long u.2.1, .ref aB, .long u.2.2.2.1, .int (zI u.2.2.2.2)])), (aL, .inl (cI, 4, .inl ml)), (aF, .inl (cJ, 5, .inr (.inl mf))), (aS, .inl (cJ, 5, .inr (.inl ms))), (aT, .inl (cJ, 4, .inr (.inl u.1))), (aB, .inl (cJ, 4, .inr (.inl u.2.2.1)))])) A
set_option maxHeartbeats 4000000 in
set_option maxRecDepth 100000 in
theorem k_M_doubleArea (l : Launch) (dC : Nat → ClassId) (dI : Nat → Nat → Nat) (cJ cI cZ : ClassId) (sz : Nat) (h : Nat) (aL : Nat) (aF : Nat) (aS : Nat) (aT : Nat) (aB : Nat) (ml : Nat → Int32) (n : Nat) (mf : Nat → Int64) (ms : Nat → Int64) (u : MixS) (i : Nat) (j : Nat) (k : Nat) (hi : i < 5) (hj : j < 5) (hk : k < 5) : Met l y_M_doubleArea w_M_doubleArea { frames := 0, cells := 0, slots := 0, locals := 0 } (kPc (dC, dI) vwCl [(cJ, .long), (cI, .int), (cZ, .boolean)] [(h, .inr (1, [.ref aL, .int (nI n), .ref aF, .ref aS, .ref aT, .long u.2.1, .ref aB, .long u.2.2.2.1, .int (zI u.2.2.2.2)])), (aL, .inl (cI, 4, .inl ml)), (aF, .inl (cJ, 5, .inr (.inl mf))), (aS, .inl (cJ, 5, .inr (.inl ms))), (aT, .inl (cJ, 4, .inr (.inl u.1))), (aB, .inl (cJ, 4, .inr (.inl u.2.2.1)))] sz [.ref h, .int (nI i), .int (nI j), .int (nI k)]) (q_M_doubleArea dC dI cJ cI cZ h aL aF aS aT aB ml n mf ms u i j k (va_A [(h, .inr (1, [.ref aL, .int (nI n), .ref aF, .ref aS, .ref aT, .long u.2.1, .ref aB, .long u.2.2.2.1, .int (zI u.2.2.2.2)])), (aL, .inl (cI, 4, .inl ml)), (aF, .inl (cJ, 5, .inr (.inl mf))), (aS, .inl (cJ, 5, .inr (.inl ms))), (aT, .inl (cJ, 4, .inr (.inl u.1))), (aB, .inl (cJ, 4, .inr (.inl u.2.2.1)))] sz)) 0 0 (va_A [(h, .inr (1, [.ref aL, .int (nI n), .ref aF, .ref aS, .ref aT, .long u.2.1, .ref aB, .long u.2.2.2.1, .int (zI u.2.2.2.2)])), (aL, .inl (cI, 4, .inl ml)), (aF, .inl (cJ, 5, .inr (.inl mf))), (aS, .inl (cJ, 5, .inr (.inl ms))), (aT, .inl (cJ, 4, .inr (.inl u.1))), (aB, .inl (cJ, 4, .inr (.inl u.2.2.1)))] sz) := by
  refine k_met (q_M_doubleArea dC dI cJ cI cZ h aL aF aS aT aB ml n mf ms u i j k) (by decide +kernel) rfl (Nat.le_of_ble_eq_true rfl) ?_
  intro p e s m below meth c A hx hb hr hml hown hts hlocks hin hA H hP hK hD hS ls hl
  have hl : lv_has ls 4 [(0, .ref h), (1, .int (nI i)), (2, .int (nI j)), (3, .int (nI k))] := hl
  have hown : s.vm.findClass R_M = some m.cls := hown
  have hts : ∀ wW ∈ kT, wW.before [.ref h, .int (nI i), .int (nI j), .int (nI k)].toArray s = true := fun wW hW => hts wW (List.mem_cons_of_mem _ hW)
  refine lv_aload_n hx hb d_M_doubleArea_0 rfl (lv_at hl 0 rfl) ?_
  refine va_get (D := (dC, dI)) (ci := 1) (v := .ref aF) (C := R_M) (T := T_M) (N := 9) hx hb hts iT_M hown hK hP 0 rfl rfl 2 (by decide) (hts _ wd_38) (fun _ h9 => h9) rfl d_M_doubleArea_1 ?_
  refine lv_iload_n hx hb d_M_doubleArea_4 rfl (lv_at hl 2 rfl) ?_
  refine k_lald (j := j) hx hb hK hP 2 0 rfl rfl (by omega) (by decide) d_M_doubleArea_5 ?_
  refine lv_aload_n hx hb d_M_doubleArea_6 rfl (lv_at hl 0 rfl) ?_
  refine va_get (D := (dC, dI)) (ci := 1) (v := .ref aF) (C := R_M) (T := T_M) (N := 9) hx hb hts iT_M hown hK hP 0 rfl rfl 2 (by decide) (hts _ wd_38) (fun _ h9 => h9) rfl d_M_doubleArea_7 ?_
  refine lv_iload_n hx hb d_M_doubleArea_10 rfl (lv_at hl 1 rfl) ?_
  refine k_lald (j := i) hx hb hK hP 2 0 rfl rfl (by omega) (by decide) d_M_doubleArea_11 ?_
  refine lv_lsub hx hb d_M_doubleArea_12 ?_
  refine lv_aload_n hx hb d_M_doubleArea_13 rfl (lv_at hl 0 rfl) ?_
  refine va_get (D := (dC, dI)) (ci := 1) (v := .ref aS) (C := R_M) (T := T_M) (N := 9) hx hb hts iT_M hown hK hP 0 rfl rfl 3 (by decide) (hts _ wd_39) (fun _ h9 => h9) rfl d_M_doubleArea_14 ?_
  refine lv_iload_n hx hb d_M_doubleArea_17 rfl (lv_at hl 3 rfl) ?_
  refine k_lald (j := k) hx hb hK hP 3 0 rfl rfl (by omega) (by decide) d_M_doubleArea_18 ?_
  refine lv_aload_n hx hb d_M_doubleArea_19 rfl (lv_at hl 0 rfl) ?_
  refine va_get (D := (dC, dI)) (ci := 1) (v := .ref aS) (C := R_M) (T := T_M) (N := 9) hx hb hts iT_M hown hK hP 0 rfl rfl 3 (by decide) (hts _ wd_39) (fun _ h9 => h9) rfl d_M_doubleArea_20 ?_
  refine lv_iload_n hx hb d_M_doubleArea_23 rfl (lv_at hl 1 rfl) ?_
  refine k_lald (j := i) hx hb hK hP 3 0 rfl rfl (by omega) (by decide) d_M_doubleArea_24 ?_
  refine lv_lsub hx hb d_M_doubleArea_25 ?_
  refine lv_lmul hx hb d_M_doubleArea_26 ?_
  refine lv_aload_n hx hb d_M_doubleArea_27 rfl (lv_at hl 0 rfl) ?_
  refine va_get (D := (dC, dI)) (ci := 1) (v := .ref aF) (C := R_M) (T := T_M) (N := 9) hx hb hts iT_M hown hK hP 0 rfl rfl 2 (by decide) (hts _ wd_38) (fun _ h9 => h9) rfl d_M_doubleArea_28 ?_
  refine lv_iload_n hx hb d_M_doubleArea_31 rfl (lv_at hl 3 rfl) ?_
  refine k_lald (j := k) hx hb hK hP 2 0 rfl rfl (by omega) (by decide) d_M_doubleArea_32 ?_
  refine lv_aload_n hx hb d_M_doubleArea_33 rfl (lv_at hl 0 rfl) ?_
  refine va_get (D := (dC, dI)) (ci := 1) (v := .ref aF) (C := R_M) (T := T_M) (N := 9) hx hb hts iT_M hown hK hP 0 rfl rfl 2 (by decide) (hts _ wd_38) (fun _ h9 => h9) rfl d_M_doubleArea_34 ?_
  refine lv_iload_n hx hb d_M_doubleArea_37 rfl (lv_at hl 1 rfl) ?_
  refine k_lald (j := i) hx hb hK hP 2 0 rfl rfl (by omega) (by decide) d_M_doubleArea_38 ?_
  refine lv_lsub hx hb d_M_doubleArea_39 ?_
  refine lv_aload_n hx hb d_M_doubleArea_40 rfl (lv_at hl 0 rfl) ?_
  refine va_get (D := (dC, dI)) (ci := 1) (v := .ref aS) (C := R_M) (T := T_M) (N := 9) hx hb hts iT_M hown hK hP 0 rfl rfl 3 (by decide) (hts _ wd_39) (fun _ h9 => h9) rfl d_M_doubleArea_41 ?_
  refine lv_iload_n hx hb d_M_doubleArea_44 rfl (lv_at hl 2 rfl) ?_
  refine k_lald (j := j) hx hb hK hP 3 0 rfl rfl (by omega) (by decide) d_M_doubleArea_45 ?_
  refine lv_aload_n hx hb d_M_doubleArea_46 rfl (lv_at hl 0 rfl) ?_
  refine va_get (D := (dC, dI)) (ci := 1) (v := .ref aS) (C := R_M) (T := T_M) (N := 9) hx hb hts iT_M hown hK hP 0 rfl rfl 3 (by decide) (hts _ wd_39) (fun _ h9 => h9) rfl d_M_doubleArea_47 ?_
  refine lv_iload_n hx hb d_M_doubleArea_50 rfl (lv_at hl 1 rfl) ?_
  refine k_lald (j := i) hx hb hK hP 3 0 rfl rfl (by omega) (by decide) d_M_doubleArea_51 ?_
  refine lv_lsub hx hb d_M_doubleArea_52 ?_
  refine lv_lmul hx hb d_M_doubleArea_53 ?_
  refine lv_lsub hx hb d_M_doubleArea_54 ?_
  exact k_lret (v := (((mf j) - (mf i)) * ((ms k) - (ms i))) - (((mf k) - (mf i)) * ((ms j) - (ms i)))) hx hb hr hlocks () rfl hP hD hK hS [0, 1, 2, 3, 4, 5] (by decide) rfl d_M_doubleArea_55
/-- M_startTrial -/
abbrev q_M_startTrial (dC : Nat → ClassId) (dI : Nat → Nat → Nat) (cJ cI cZ : ClassId) (h : Nat) (aL : Nat) (aF : Nat) (aS : Nat) (aT : Nat) (aB : Nat) (ml : Nat → Int32) (n : Nat) (mf : Nat → Int64) (ms : Nat → Int64) (u : MixS) (x : Int64) (A : Nat → Prop) : Array Value → State → Outcome → State → Prop := va_Qv (fun (_ : Unit) => True) (kB (dC, dI) vwCl [(cJ, .long), (cI, .int), (cZ, .boolean)] A (fun (_ : Unit) => [(h, .inr (1, [.ref aL, .int (nI n), .ref aF, .ref aS, .ref aT, .long ((stF u x).2.1), .ref aB, .long ((stF u x).2.2.2.1), .int (zI ((stF u x).2.2.2.2))])), (aL, .inl (cI, 4, .inl ml)), (aF, .inl (cJ, 5, .inr (.inl mf))), (aS, .inl (cJ, 5, .inr (.inl ms))), (aT, .inl (cJ, 4, .inr (.inl ((stF u x).1)))), (aB, .inl (cJ, 4, .inr (.inl ((stF u x).2.2.1))))])) A
set_option maxHeartbeats 4000000 in
set_option maxRecDepth 100000 in
theorem k_M_startTrial (l : Launch) (dC : Nat → ClassId) (dI : Nat → Nat → Nat) (cJ cI cZ : ClassId) (sz : Nat) (h : Nat) (aL : Nat) (aF : Nat) (aS : Nat) (aT : Nat) (aB : Nat) (ml : Nat → Int32) (n : Nat) (mf : Nat → Int64) (ms : Nat → Int64) (u : MixS) (x : Int64)  : Met l y_M_startTrial w_M_startTrial { frames := 0, cells := 0, slots := 0, locals := 0 } (kPc (dC, dI) vwCl [(cJ, .long), (cI, .int), (cZ, .boolean)] [(h, .inr (1, [.ref aL, .int (nI n), .ref aF, .ref aS, .ref aT, .long u.2.1, .ref aB, .long u.2.2.2.1, .int (zI u.2.2.2.2)])), (aL, .inl (cI, 4, .inl ml)), (aF, .inl (cJ, 5, .inr (.inl mf))), (aS, .inl (cJ, 5, .inr (.inl ms))), (aT, .inl (cJ, 4, .inr (.inl u.1))), (aB, .inl (cJ, 4, .inr (.inl u.2.2.1)))] sz [.ref h, .long x]) (q_M_startTrial dC dI cJ cI cZ h aL aF aS aT aB ml n mf ms u x (va_A [(h, .inr (1, [.ref aL, .int (nI n), .ref aF, .ref aS, .ref aT, .long u.2.1, .ref aB, .long u.2.2.2.1, .int (zI u.2.2.2.2)])), (aL, .inl (cI, 4, .inl ml)), (aF, .inl (cJ, 5, .inr (.inl mf))), (aS, .inl (cJ, 5, .inr (.inl ms))), (aT, .inl (cJ, 4, .inr (.inl u.1))), (aB, .inl (cJ, 4, .inr (.inl u.2.2.1)))] sz)) 0 0 (va_A [(h, .inr (1, [.ref aL, .int (nI n), .ref aF, .ref aS, .ref aT, .long u.2.1, .ref aB, .long u.2.2.2.1, .int (zI u.2.2.2.2)])), (aL, .inl (cI, 4, .inl ml)), (aF, .inl (cJ, 5, .inr (.inl mf))), (aS, .inl (cJ, 5, .inr (.inl ms))), (aT, .inl (cJ, 4, .inr (.inl u.1))), (aB, .inl (cJ, 4, .inr (.inl u.2.2.1)))] sz) := by
  refine k_met (q_M_startTrial dC dI cJ cI cZ h aL aF aS aT aB ml n mf ms u x) (by decide +kernel) rfl (Nat.le_of_ble_eq_true rfl) ?_
  intro p e s m below meth c A hx hb hr hml hown hts hlocks hin hA H hP hK hD hS ls hl
  have hl : lv_has ls 4 [(0, .ref h), (1, .long x)] := hl
  have hown : s.vm.findClass R_M = some m.cls := hown
  have hts : ∀ wW ∈ kT, wW.before [.ref h, .long x].toArray s = true := fun wW hW => hts wW (List.mem_cons_of_mem _ hW)
  refine lv_aload_n hx hb d_M_startTrial_0 rfl (lv_at hl 0 rfl) ?_
  refine lv_lload_n hx hb d_M_startTrial_1 rfl (lv_at hl 1 rfl) ?_
  refine va_put (D := (dC, dI)) (ci := 1) (v := .long x) (ty := .long) (C := R_M) (T := T_M) (N := 9) hx hb hts iT_M t_M t_M_ok n_M hown hK hP hD hS 0 rfl rfl 5 (by decide) (hts _ wd_41) (fun _ h9 => h9) rfl (by decide +kernel) rfl rfl (Nat.le_of_ble_eq_true rfl) d_M_startTrial_2 (fun H locs hP hD hS => ?_)
  have hP : va_P (dC, dI) vwCl [(h, .inr (1, [.ref aL, .int (nI n), .ref aF, .ref aS, .ref aT, .long x, .ref aB, .long u.2.2.2.1, .int (zI u.2.2.2.2)])), (aL, .inl (cI, 4, .inl ml)), (aF, .inl (cJ, 5, .inr (.inl mf))), (aS, .inl (cJ, 5, .inr (.inl ms))), (aT, .inl (cJ, 4, .inr (.inl u.1))), (aB, .inl (cJ, 4, .inr (.inl u.2.2.1)))] H := hP
  have hD : va_D A [(h, .inr (1, [.ref aL, .int (nI n), .ref aF, .ref aS, .ref aT, .long x, .ref aB, .long u.2.2.2.1, .int (zI u.2.2.2.2)])), (aL, .inl (cI, 4, .inl ml)), (aF, .inl (cJ, 5, .inr (.inl mf))), (aS, .inl (cJ, 5, .inr (.inl ms))), (aT, .inl (cJ, 4, .inr (.inl u.1))), (aB, .inl (cJ, 4, .inr (.inl u.2.2.1)))] := hD
  refine lv_iconst (v := nI 0) hx hb d_M_startTrial_5 (by decide) ?_
  refine lv_istore_n (lv' := [(3, .int (nI 0)), (0, .ref h), (1, .long x)]) hx hb d_M_startTrial_6 rfl hl (by decide) rfl (fun ls hl => ?_)
  have hP : va_P (dC, dI) vwCl [(h, .inr (1, [.ref aL, .int (nI n), .ref aF, .ref aS, .ref aT, .long ((u.1, x, u.2.2).2.1), .ref aB, .long ((u.1, x, u.2.2).2.2.2.1), .int (zI ((u.1, x, u.2.2).2.2.2.2))])), (aL, .inl (cI, 4, .inl ml)), (aF, .inl (cJ, 5, .inr (.inl mf))), (aS, .inl (cJ, 5, .inr (.inl ms))), (aT, .inl (cJ, 4, .inr (.inl ((u.1, x, u.2.2).1)))), (aB, .inl (cJ, 4, .inr (.inl ((u.1, x, u.2.2).2.2.1))))] H := hP
  have hD : va_D A [(h, .inr (1, [.ref aL, .int (nI n), .ref aF, .ref aS, .ref aT, .long ((u.1, x, u.2.2).2.1), .ref aB, .long ((u.1, x, u.2.2).2.2.2.1), .int (zI ((u.1, x, u.2.2).2.2.2.2))])), (aL, .inl (cI, 4, .inl ml)), (aF, .inl (cJ, 5, .inr (.inl mf))), (aS, .inl (cJ, 5, .inr (.inl ms))), (aT, .inl (cJ, 4, .inr (.inl ((u.1, x, u.2.2).1)))), (aB, .inl (cJ, 4, .inr (.inl ((u.1, x, u.2.2).2.2.1))))] := hD
  have hP : va_P (dC, dI) vwCl [(h, .inr (1, [.ref aL, .int (nI n), .ref aF, .ref aS, .ref aT, .long ((u.1, x, u.2.2).2.1), .ref aB, .long ((u.1, x, u.2.2).2.2.2.1), .int (zI ((u.1, x, u.2.2).2.2.2.2))])), (aL, .inl (cI, 4, .inl ml)), (aF, .inl (cJ, 5, .inr (.inl mf))), (aS, .inl (cJ, 5, .inr (.inl ms))), (aT, .inl (cJ, 4, .inr (.inl ((zer 0 u.1, x, u.2.2).1)))), (aB, .inl (cJ, 4, .inr (.inl ((u.1, x, u.2.2).2.2.1))))] H := by rw [show (zer 0 u.1, x, u.2.2).1 = u.1 from zer_0 u.1]; exact hP
  have hD : va_D A [(h, .inr (1, [.ref aL, .int (nI n), .ref aF, .ref aS, .ref aT, .long ((u.1, x, u.2.2).2.1), .ref aB, .long ((u.1, x, u.2.2).2.2.2.1), .int (zI ((u.1, x, u.2.2).2.2.2.2))])), (aL, .inl (cI, 4, .inl ml)), (aF, .inl (cJ, 5, .inr (.inl mf))), (aS, .inl (cJ, 5, .inr (.inl ms))), (aT, .inl (cJ, 4, .inr (.inl ((zer 0 u.1, x, u.2.2).1)))), (aB, .inl (cJ, 4, .inr (.inl ((u.1, x, u.2.2).2.2.1))))] := by rw [show (zer 0 u.1, x, u.2.2).1 = u.1 from zer_0 u.1]; exact hD
  have hP : va_P (dC, dI) vwCl [(h, .inr (1, [.ref aL, .int (nI n), .ref aF, .ref aS, .ref aT, .long ((zer 0 u.1, x, u.2.2).2.1), .ref aB, .long ((zer 0 u.1, x, u.2.2).2.2.2.1), .int (zI ((zer 0 u.1, x, u.2.2).2.2.2.2))])), (aL, .inl (cI, 4, .inl ml)), (aF, .inl (cJ, 5, .inr (.inl mf))), (aS, .inl (cJ, 5, .inr (.inl ms))), (aT, .inl (cJ, 4, .inr (.inl ((zer 0 u.1, x, u.2.2).1)))), (aB, .inl (cJ, 4, .inr (.inl ((zer 0 u.1, x, u.2.2).2.2.1))))] H := hP
  have hD : va_D A [(h, .inr (1, [.ref aL, .int (nI n), .ref aF, .ref aS, .ref aT, .long ((zer 0 u.1, x, u.2.2).2.1), .ref aB, .long ((zer 0 u.1, x, u.2.2).2.2.2.1), .int (zI ((zer 0 u.1, x, u.2.2).2.2.2.2))])), (aL, .inl (cI, 4, .inl ml)), (aF, .inl (cJ, 5, .inr (.inl mf))), (aS, .inl (cJ, 5, .inr (.inl ms))), (aT, .inl (cJ, 4, .inr (.inl ((zer 0 u.1, x, u.2.2).1)))), (aB, .inl (cJ, 4, .inr (.inl ((zer 0 u.1, x, u.2.2).2.2.1))))] := hD
  have loop_7 : ∀ (fu_7 : Nat) (i : Nat) (hi : i ≤ 4) (hfu_7 : 5 ≤ i + fu_7) (H : Heap) (locs : List Loc) (ls : Array Slot), va_P (dC, dI) vwCl [(h, .inr (1, [.ref aL, .int (nI n), .ref aF, .ref aS, .ref aT, .long ((zer i u.1, x, u.2.2).2.1), .ref aB, .long ((zer i u.1, x, u.2.2).2.2.2.1), .int (zI ((zer i u.1, x, u.2.2).2.2.2.2))])), (aL, .inl (cI, 4, .inl ml)), (aF, .inl (cJ, 5, .inr (.inl mf))), (aS, .inl (cJ, 5, .inr (.inl ms))), (aT, .inl (cJ, 4, .inr (.inl ((zer i u.1, x, u.2.2).1)))), (aB, .inl (cJ, 4, .inr (.inl ((zer i u.1, x, u.2.2).2.2.1))))] H → va_D A [(h, .inr (1, [.ref aL, .int (nI n), .ref aF, .ref aS, .ref aT, .long ((zer i u.1, x, u.2.2).2.1), .ref aB, .long ((zer i u.1, x, u.2.2).2.2.2.1), .int (zI ((zer i u.1, x, u.2.2).2.2.2.2))])), (aL, .inl (cI, 4, .inl ml)), (aF, .inl (cJ, 5, .inr (.inl mf))), (aS, .inl (cJ, 5, .inr (.inl ms))), (aT, .inl (cJ, 4, .inr (.inl ((zer i u.1, x, u.2.2).1)))), (aB, .inl (cJ, 4, .inr (.inl ((zer i u.1, x, u.2.2).2.2.1))))] → va_S A s.heap H locs → lv_has ls 4 [(0, .ref h), (1, .long x), (3, .int (nI i))] → W p l e { frames := 0, cells := 0, slots := 0, locals := 0 } s m [.ref h, .long x].toArray below meth c H locs 0 0 (MQ below (q_M_startTrial dC dI cJ cI cZ h aL aF aS aT aB ml n mf ms u x A) [.ref h, .long x].toArray s 0 0 A) (F0 m 7 ls []) := by
    intro fu_7
    induction fu_7 with
    | zero =>
      intro i hi hfu_7 H locs ls hP hD hS hl
      exact absurd hfu_7 (by omega)
    | succ fu_7 ih_7 =>
      intro i hi hfu_7 H locs ls hP hD hS hl
      refine lv_iload_n hx hb d_M_startTrial_7 rfl (lv_at hl 2 rfl) ?_
      refine lv_iconst (v := nI 4) hx hb d_M_startTrial_8 (by decide) ?_
      refine k_nge (tgt := 25) hx hb d_M_startTrial_9 (by decide) (by omega) (by omega) (fun c_9 => ?_) (fun c_9 => ?_)
      · obtain rfl : i = 4 := by omega
        exact k_vret hx hb hr hlocks () trivial hP hD hK hS [0, 1, 2, 3, 4, 5] (by decide) rfl d_M_startTrial_25
      · refine lv_aload_n hx hb d_M_startTrial_12 rfl (lv_at hl 0 rfl) ?_
        refine va_get (D := (dC, dI)) (ci := 1) (v := .ref aT) (C := R_M) (T := T_M) (N := 9) hx hb hts iT_M hown hK hP 0 rfl rfl 4 (by decide) (hts _ wd_40) (fun _ h9 => h9) rfl d_M_startTrial_13 ?_
        refine lv_iload_n hx hb d_M_startTrial_16 rfl (lv_at hl 2 rfl) ?_
        refine lv_lconst (v := 0) hx hb d_M_startTrial_17 (by decide) ?_
        refine k_last (j := i) hx hb hK hP hD hS 4 0 rfl rfl (by omega) (by decide) d_M_startTrial_18 (fun H locs hP hD hS => ?_)
        have ef_18 : vp_updL ((zer i u.1, x, u.2.2).1) i 0 = (zer (i + 1) u.1, x, u.2.2).1 := zer_step u.1 i
        rw [ef_18] at hP hD
        have hP : va_P (dC, dI) vwCl [(h, .inr (1, [.ref aL, .int (nI n), .ref aF, .ref aS, .ref aT, .long ((zer i u.1, x, u.2.2).2.1), .ref aB, .long ((zer i u.1, x, u.2.2).2.2.2.1), .int (zI ((zer i u.1, x, u.2.2).2.2.2.2))])), (aL, .inl (cI, 4, .inl ml)), (aF, .inl (cJ, 5, .inr (.inl mf))), (aS, .inl (cJ, 5, .inr (.inl ms))), (aT, .inl (cJ, 4, .inr (.inl ((zer (i + 1) u.1, x, u.2.2).1)))), (aB, .inl (cJ, 4, .inr (.inl ((zer i u.1, x, u.2.2).2.2.1))))] H := hP
        have hD : va_D A [(h, .inr (1, [.ref aL, .int (nI n), .ref aF, .ref aS, .ref aT, .long ((zer i u.1, x, u.2.2).2.1), .ref aB, .long ((zer i u.1, x, u.2.2).2.2.2.1), .int (zI ((zer i u.1, x, u.2.2).2.2.2.2))])), (aL, .inl (cI, 4, .inl ml)), (aF, .inl (cJ, 5, .inr (.inl mf))), (aS, .inl (cJ, 5, .inr (.inl ms))), (aT, .inl (cJ, 4, .inr (.inl ((zer (i + 1) u.1, x, u.2.2).1)))), (aB, .inl (cJ, 4, .inr (.inl ((zer i u.1, x, u.2.2).2.2.1))))] := hD
        have hP : va_P (dC, dI) vwCl [(h, .inr (1, [.ref aL, .int (nI n), .ref aF, .ref aS, .ref aT, .long ((zer (i + 1) u.1, x, u.2.2).2.1), .ref aB, .long ((zer (i + 1) u.1, x, u.2.2).2.2.2.1), .int (zI ((zer (i + 1) u.1, x, u.2.2).2.2.2.2))])), (aL, .inl (cI, 4, .inl ml)), (aF, .inl (cJ, 5, .inr (.inl mf))), (aS, .inl (cJ, 5, .inr (.inl ms))), (aT, .inl (cJ, 4, .inr (.inl ((zer (i + 1) u.1, x, u.2.2).1)))), (aB, .inl (cJ, 4, .inr (.inl ((zer (i + 1) u.1, x, u.2.2).2.2.1))))] H := hP
        have hD : va_D A [(h, .inr (1, [.ref aL, .int (nI n), .ref aF, .ref aS, .ref aT, .long ((zer (i + 1) u.1, x, u.2.2).2.1), .ref aB, .long ((zer (i + 1) u.1, x, u.2.2).2.2.2.1), .int (zI ((zer (i + 1) u.1, x, u.2.2).2.2.2.2))])), (aL, .inl (cI, 4, .inl ml)), (aF, .inl (cJ, 5, .inr (.inl mf))), (aS, .inl (cJ, 5, .inr (.inl ms))), (aT, .inl (cJ, 4, .inr (.inl ((zer (i + 1) u.1, x, u.2.2).1)))), (aB, .inl (cJ, 4, .inr (.inl ((zer (i + 1) u.1, x, u.2.2).2.2.1))))] := hD
        refine lv_iinc (v := nI (i + 1)) (lv' := [(3, .int (nI (i + 1))), (0, .ref h), (1, .long x)]) hx hb d_M_startTrial_19 hl (k := 2) rfl (nI_add i 1) (by decide) rfl (fun ls hl => ?_)
        refine lv_goto (tgt := 7) hx hb d_M_startTrial_22 (by decide) ?_
        exact ih_7 (i + 1) (by omega) (by omega) _ _ _ hP hD hS (lv_sub hl [1, 2, 0] rfl)
  exact loop_7 5 0 (by omega) (by omega) _ _ _ hP hD hS (lv_sub hl [1, 2, 0] rfl)
/-- M_isTrialPossible -/
abbrev q_M_isTrialPossible (dC : Nat → ClassId) (dI : Nat → Nat → Nat) (cJ cI cZ : ClassId) (h : Nat) (aL : Nat) (aF : Nat) (aS : Nat) (aT : Nat) (aB : Nat) (ml : Nat → Int32) (n : Nat) (mf : Nat → Int64) (ms : Nat → Int64) (u : MixS) (A : Nat → Prop) : Array Value → State → Outcome → State → Prop := va_Qi (fun (r : Int32) (_ : Unit) => r = zI (posB u.1 n)) (kB (dC, dI) vwCl [(cJ, .long), (cI, .int), (cZ, .boolean)] A (fun (_ : Unit) => [(h, .inr (1, [.ref aL, .int (nI n), .ref aF, .ref aS, .ref aT, .long u.2.1, .ref aB, .long u.2.2.2.1, .int (zI u.2.2.2.2)])), (aL, .inl (cI, 4, .inl ml)), (aF, .inl (cJ, 5, .inr (.inl mf))), (aS, .inl (cJ, 5, .inr (.inl ms))), (aT, .inl (cJ, 4, .inr (.inl u.1))), (aB, .inl (cJ, 4, .inr (.inl u.2.2.1)))])) A
set_option maxHeartbeats 4000000 in
set_option maxRecDepth 100000 in
theorem k_M_isTrialPossible (l : Launch) (dC : Nat → ClassId) (dI : Nat → Nat → Nat) (cJ cI cZ : ClassId) (sz : Nat) (h : Nat) (aL : Nat) (aF : Nat) (aS : Nat) (aT : Nat) (aB : Nat) (ml : Nat → Int32) (n : Nat) (mf : Nat → Int64) (ms : Nat → Int64) (u : MixS) (hn : n ≤ 4) : Met l y_M_isTrialPossible w_M_isTrialPossible { frames := 0, cells := 0, slots := 0, locals := 0 } (kPc (dC, dI) vwCl [(cJ, .long), (cI, .int), (cZ, .boolean)] [(h, .inr (1, [.ref aL, .int (nI n), .ref aF, .ref aS, .ref aT, .long u.2.1, .ref aB, .long u.2.2.2.1, .int (zI u.2.2.2.2)])), (aL, .inl (cI, 4, .inl ml)), (aF, .inl (cJ, 5, .inr (.inl mf))), (aS, .inl (cJ, 5, .inr (.inl ms))), (aT, .inl (cJ, 4, .inr (.inl u.1))), (aB, .inl (cJ, 4, .inr (.inl u.2.2.1)))] sz [.ref h]) (q_M_isTrialPossible dC dI cJ cI cZ h aL aF aS aT aB ml n mf ms u (va_A [(h, .inr (1, [.ref aL, .int (nI n), .ref aF, .ref aS, .ref aT, .long u.2.1, .ref aB, .long u.2.2.2.1, .int (zI u.2.2.2.2)])), (aL, .inl (cI, 4, .inl ml)), (aF, .inl (cJ, 5, .inr (.inl mf))), (aS, .inl (cJ, 5, .inr (.inl ms))), (aT, .inl (cJ, 4, .inr (.inl u.1))), (aB, .inl (cJ, 4, .inr (.inl u.2.2.1)))] sz)) 0 0 (va_A [(h, .inr (1, [.ref aL, .int (nI n), .ref aF, .ref aS, .ref aT, .long u.2.1, .ref aB, .long u.2.2.2.1, .int (zI u.2.2.2.2)])), (aL, .inl (cI, 4, .inl ml)), (aF, .inl (cJ, 5, .inr (.inl mf))), (aS, .inl (cJ, 5, .inr (.inl ms))), (aT, .inl (cJ, 4, .inr (.inl u.1))), (aB, .inl (cJ, 4, .inr (.inl u.2.2.1)))] sz) := by
  refine k_met (q_M_isTrialPossible dC dI cJ cI cZ h aL aF aS aT aB ml n mf ms u) (by decide +kernel) rfl (Nat.le_of_ble_eq_true rfl) ?_
  intro p e s m below meth c A hx hb hr hml hown hts hlocks hin hA H hP hK hD hS ls hl
  have hl : lv_has ls 2 [(0, .ref h)] := hl
  have hown : s.vm.findClass R_M = some m.cls := hown
  have hts : ∀ wW ∈ kT, wW.before [.ref h].toArray s = true := fun wW hW => hts wW (List.mem_cons_of_mem _ hW)
  refine lv_iconst (v := nI 0) hx hb d_M_isTrialPossible_0 (by decide) ?_
  refine lv_istore_n (lv' := [(1, .int (nI 0)), (0, .ref h)]) hx hb d_M_isTrialPossible_1 rfl hl (by decide) rfl (fun ls hl => ?_)
  have loop_2 : ∀ (fu_2 : Nat) (i : Nat) (hi : i ≤ n) (hv : fdN (fun j => decide (u.1 j < 0)) (n - i) i = fd (fun j => decide (u.1 j < 0)) n) (hfu_2 : n + 1 ≤ i + fu_2) (H : Heap) (locs : List Loc) (ls : Array Slot), va_P (dC, dI) vwCl [(h, .inr (1, [.ref aL, .int (nI n), .ref aF, .ref aS, .ref aT, .long u.2.1, .ref aB, .long u.2.2.2.1, .int (zI u.2.2.2.2)])), (aL, .inl (cI, 4, .inl ml)), (aF, .inl (cJ, 5, .inr (.inl mf))), (aS, .inl (cJ, 5, .inr (.inl ms))), (aT, .inl (cJ, 4, .inr (.inl u.1))), (aB, .inl (cJ, 4, .inr (.inl u.2.2.1)))] H → va_D A [(h, .inr (1, [.ref aL, .int (nI n), .ref aF, .ref aS, .ref aT, .long u.2.1, .ref aB, .long u.2.2.2.1, .int (zI u.2.2.2.2)])), (aL, .inl (cI, 4, .inl ml)), (aF, .inl (cJ, 5, .inr (.inl mf))), (aS, .inl (cJ, 5, .inr (.inl ms))), (aT, .inl (cJ, 4, .inr (.inl u.1))), (aB, .inl (cJ, 4, .inr (.inl u.2.2.1)))] → va_S A s.heap H locs → lv_has ls 2 [(0, .ref h), (1, .int (nI i))] → W p l e { frames := 0, cells := 0, slots := 0, locals := 0 } s m [.ref h].toArray below meth c H locs 0 0 (MQ below (q_M_isTrialPossible dC dI cJ cI cZ h aL aF aS aT aB ml n mf ms u A) [.ref h].toArray s 0 0 A) (F0 m 2 ls []) := by
    intro fu_2
    induction fu_2 with
    | zero =>
      intro i hi hv hfu_2 H locs ls hP hD hS hl
      exact absurd hfu_2 (by omega)
    | succ fu_2 ih_2 =>
      intro i hi hv hfu_2 H locs ls hP hD hS hl
      refine lv_iload_n hx hb d_M_isTrialPossible_2 rfl (lv_at hl 1 rfl) ?_
      refine lv_aload_n hx hb d_M_isTrialPossible_3 rfl (lv_at hl 0 rfl) ?_
      refine va_get (D := (dC, dI)) (ci := 1) (v := .int (nI n)) (C := R_M) (T := T_M) (N := 9) hx hb hts iT_M hown hK hP 0 rfl rfl 1 (by decide) (hts _ wd_37) (fun _ h9 => h9) rfl d_M_isTrialPossible_4 ?_
      refine k_nge (tgt := 29) hx hb d_M_isTrialPossible_7 (by decide) (by omega) (by omega) (fun c_7 => ?_) (fun c_7 => ?_)
      · refine lv_iconst (v := nI 1) hx hb d_M_isTrialPossible_29 (by decide) ?_
        exact k_zret (v := nI 1) hx hb hr hlocks rfl () (by unfold posB; rw [← hv, fdN_end (P := fun j => decide (u.1 j < 0)) c_7, decide_eq_true (by omega)]; rfl) hP hD hK hS [0, 1, 2, 3, 4, 5] (by decide) rfl d_M_isTrialPossible_30
      · refine lv_aload_n hx hb d_M_isTrialPossible_10 rfl (lv_at hl 0 rfl) ?_
        refine va_get (D := (dC, dI)) (ci := 1) (v := .ref aT) (C := R_M) (T := T_M) (N := 9) hx hb hts iT_M hown hK hP 0 rfl rfl 4 (by decide) (hts _ wd_40) (fun _ h9 => h9) rfl d_M_isTrialPossible_11 ?_
        refine lv_iload_n hx hb d_M_isTrialPossible_14 rfl (lv_at hl 1 rfl) ?_
        refine k_lald (j := i) hx hb hK hP 4 0 rfl rfl (by omega) (by decide) d_M_isTrialPossible_15 ?_
        refine lv_lconst (v := 0) hx hb d_M_isTrialPossible_16 (by decide) ?_
        refine k_jge (tgt := 23) hx hb d_M_isTrialPossible_17 d_M_isTrialPossible_18 (by decide) (fun c_17 => ?_) (fun c_17 => ?_)
        · refine lv_iinc (v := nI (i + 1)) (lv' := [(1, .int (nI (i + 1))), (0, .ref h)]) hx hb d_M_isTrialPossible_23 hl (k := 1) rfl (nI_add i 1) (by decide) rfl (fun ls hl => ?_)
          refine lv_goto (tgt := 2) hx hb d_M_isTrialPossible_26 (by decide) ?_
          exact ih_2 (i + 1) (by omega) ((fdN_go (P := fun j => decide (u.1 j < 0)) c_7 (decide_eq_false (Int64.not_lt.mpr c_17))).symm.trans hv) (by omega) _ _ _ hP hD hS (lv_sub hl [1, 0] rfl)
        · refine lv_iconst (v := nI 0) hx hb d_M_isTrialPossible_21 (by decide) ?_
          exact k_zret (v := nI 0) hx hb hr hlocks rfl () (by unfold posB; rw [← hv, fdN_hit (P := fun j => decide (u.1 j < 0)) c_7 (decide_eq_true c_17), decide_eq_false (by omega)]; rfl) hP hD hK hS [0, 1, 2, 3, 4, 5] (by decide) rfl d_M_isTrialPossible_22
  exact loop_2 (n + 1) 0 (by omega) rfl (by omega) _ _ _ hP hD hS (lv_sub hl [1, 0] rfl)
/-- M_isTrialBetter -/
abbrev q_M_isTrialBetter (dC : Nat → ClassId) (dI : Nat → Nat → Nat) (cJ cI cZ : ClassId) (h : Nat) (aL : Nat) (aF : Nat) (aS : Nat) (aT : Nat) (aB : Nat) (ml : Nat → Int32) (n : Nat) (mf : Nat → Int64) (ms : Nat → Int64) (u : MixS) (A : Nat → Prop) : Array Value → State → Outcome → State → Prop := va_Qi (fun (r : Int32) (_ : Unit) => r = zI (btB u.1 u.2.1 u.2.2.1 u.2.2.2.1 n)) (kB (dC, dI) vwCl [(cJ, .long), (cI, .int), (cZ, .boolean)] A (fun (_ : Unit) => [(h, .inr (1, [.ref aL, .int (nI n), .ref aF, .ref aS, .ref aT, .long u.2.1, .ref aB, .long u.2.2.2.1, .int (zI u.2.2.2.2)])), (aL, .inl (cI, 4, .inl ml)), (aF, .inl (cJ, 5, .inr (.inl mf))), (aS, .inl (cJ, 5, .inr (.inl ms))), (aT, .inl (cJ, 4, .inr (.inl u.1))), (aB, .inl (cJ, 4, .inr (.inl u.2.2.1)))])) A
set_option maxHeartbeats 4000000 in
set_option maxRecDepth 100000 in
theorem k_M_isTrialBetter (l : Launch) (dC : Nat → ClassId) (dI : Nat → Nat → Nat) (cJ cI cZ : ClassId) (sz : Nat) (h : Nat) (aL : Nat) (aF : Nat) (aS : Nat) (aT : Nat) (aB : Nat) (ml : Nat → Int32) (n : Nat) (mf : Nat → Int64) (ms : Nat → Int64) (u : MixS) (hn : n ≤ 4) : Met l y_M_isTrialBetter w_M_isTrialBetter { frames := 0, cells := 0, slots := 0, locals := 0 } (kPc (dC, dI) vwCl [(cJ, .long), (cI, .int), (cZ, .boolean)] [(h, .inr (1, [.ref aL, .int (nI n), .ref aF, .ref aS, .ref aT, .long u.2.1, .ref aB, .long u.2.2.2.1, .int (zI u.2.2.2.2)])), (aL, .inl (cI, 4, .inl ml)), (aF, .inl (cJ, 5, .inr (.inl mf))), (aS, .inl (cJ, 5, .inr (.inl ms))), (aT, .inl (cJ, 4, .inr (.inl u.1))), (aB, .inl (cJ, 4, .inr (.inl u.2.2.1)))] sz [.ref h]) (q_M_isTrialBetter dC dI cJ cI cZ h aL aF aS aT aB ml n mf ms u (va_A [(h, .inr (1, [.ref aL, .int (nI n), .ref aF, .ref aS, .ref aT, .long u.2.1, .ref aB, .long u.2.2.2.1, .int (zI u.2.2.2.2)])), (aL, .inl (cI, 4, .inl ml)), (aF, .inl (cJ, 5, .inr (.inl mf))), (aS, .inl (cJ, 5, .inr (.inl ms))), (aT, .inl (cJ, 4, .inr (.inl u.1))), (aB, .inl (cJ, 4, .inr (.inl u.2.2.1)))] sz)) 0 0 (va_A [(h, .inr (1, [.ref aL, .int (nI n), .ref aF, .ref aS, .ref aT, .long u.2.1, .ref aB, .long u.2.2.2.1, .int (zI u.2.2.2.2)])), (aL, .inl (cI, 4, .inl ml)), (aF, .inl (cJ, 5, .inr (.inl mf))), (aS, .inl (cJ, 5, .inr (.inl ms))), (aT, .inl (cJ, 4, .inr (.inl u.1))), (aB, .inl (cJ, 4, .inr (.inl u.2.2.1)))] sz) := by
  refine k_met (q_M_isTrialBetter dC dI cJ cI cZ h aL aF aS aT aB ml n mf ms u) (by decide +kernel) rfl (Nat.le_of_ble_eq_true rfl) ?_
  intro p e s m below meth c A hx hb hr hml hown hts hlocks hin hA H hP hK hD hS ls hl
  have hl : lv_has ls 6 [(0, .ref h)] := hl
  have hown : s.vm.findClass R_M = some m.cls := hown
  have hts : ∀ wW ∈ kT, wW.before [.ref h].toArray s = true := fun wW hW => hts wW (List.mem_cons_of_mem _ hW)
  refine lv_iconst (v := nI 0) hx hb d_M_isTrialBetter_0 (by decide) ?_
  refine lv_istore_n (lv' := [(1, .int (nI 0)), (0, .ref h)]) hx hb d_M_isTrialBetter_1 rfl hl (by decide) rfl (fun ls hl => ?_)
  have loop_2 : ∀ (fu_2 : Nat) (i : Nat) (hi : i ≤ n) (hv : fdN (fun j => decide (¬ u.1 j * u.2.2.2.1 = u.2.2.1 j * u.2.1)) (n - i) i = dfN u.1 u.2.1 u.2.2.1 u.2.2.2.1 n) (hfu_2 : n + 1 ≤ i + fu_2) (H : Heap) (locs : List Loc) (ls : Array Slot), va_P (dC, dI) vwCl [(h, .inr (1, [.ref aL, .int (nI n), .ref aF, .ref aS, .ref aT, .long u.2.1, .ref aB, .long u.2.2.2.1, .int (zI u.2.2.2.2)])), (aL, .inl (cI, 4, .inl ml)), (aF, .inl (cJ, 5, .inr (.inl mf))), (aS, .inl (cJ, 5, .inr (.inl ms))), (aT, .inl (cJ, 4, .inr (.inl u.1))), (aB, .inl (cJ, 4, .inr (.inl u.2.2.1)))] H → va_D A [(h, .inr (1, [.ref aL, .int (nI n), .ref aF, .ref aS, .ref aT, .long u.2.1, .ref aB, .long u.2.2.2.1, .int (zI u.2.2.2.2)])), (aL, .inl (cI, 4, .inl ml)), (aF, .inl (cJ, 5, .inr (.inl mf))), (aS, .inl (cJ, 5, .inr (.inl ms))), (aT, .inl (cJ, 4, .inr (.inl u.1))), (aB, .inl (cJ, 4, .inr (.inl u.2.2.1)))] → va_S A s.heap H locs → lv_has ls 6 [(0, .ref h), (1, .int (nI i))] → W p l e { frames := 0, cells := 0, slots := 0, locals := 0 } s m [.ref h].toArray below meth c H locs 0 0 (MQ below (q_M_isTrialBetter dC dI cJ cI cZ h aL aF aS aT aB ml n mf ms u A) [.ref h].toArray s 0 0 A) (F0 m 2 ls []) := by
    intro fu_2
    induction fu_2 with
    | zero =>
      intro i hi hv hfu_2 H locs ls hP hD hS hl
      exact absurd hfu_2 (by omega)
    | succ fu_2 ih_2 =>
      intro i hi hv hfu_2 H locs ls hP hD hS hl
      refine lv_iload_n hx hb d_M_isTrialBetter_2 rfl (lv_at hl 1 rfl) ?_
      refine lv_aload_n hx hb d_M_isTrialBetter_3 rfl (lv_at hl 0 rfl) ?_
      refine va_get (D := (dC, dI)) (ci := 1) (v := .int (nI n)) (C := R_M) (T := T_M) (N := 9) hx hb hts iT_M hown hK hP 0 rfl rfl 1 (by decide) (hts _ wd_37) (fun _ h9 => h9) rfl d_M_isTrialBetter_4 ?_
      refine k_nge (tgt := 61) hx hb d_M_isTrialBetter_7 (by decide) (by omega) (by omega) (fun c_7 => ?_) (fun c_7 => ?_)
      · refine lv_iconst (v := nI 0) hx hb d_M_isTrialBetter_61 (by decide) ?_
        exact k_zret (v := nI 0) hx hb hr hlocks rfl () (by unfold btB; rw [← hv, fdN_end (P := fun j => decide (¬ u.1 j * u.2.2.2.1 = u.2.2.1 j * u.2.1)) c_7, decide_eq_false (by omega)]; rfl) hP hD hK hS [0, 1, 2, 3, 4, 5] (by decide) rfl d_M_isTrialBetter_62
      · refine lv_aload_n hx hb d_M_isTrialBetter_10 rfl (lv_at hl 0 rfl) ?_
        refine va_get (D := (dC, dI)) (ci := 1) (v := .ref aT) (C := R_M) (T := T_M) (N := 9) hx hb hts iT_M hown hK hP 0 rfl rfl 4 (by decide) (hts _ wd_40) (fun _ h9 => h9) rfl d_M_isTrialBetter_11 ?_
        refine lv_iload_n hx hb d_M_isTrialBetter_14 rfl (lv_at hl 1 rfl) ?_
        refine k_lald (j := i) hx hb hK hP 4 0 rfl rfl (by omega) (by decide) d_M_isTrialBetter_15 ?_
        refine lv_aload_n hx hb d_M_isTrialBetter_16 rfl (lv_at hl 0 rfl) ?_
        refine va_get (D := (dC, dI)) (ci := 1) (v := .long u.2.2.2.1) (C := R_M) (T := T_M) (N := 9) hx hb hts iT_M hown hK hP 0 rfl rfl 7 (by decide) (hts _ wd_43) (fun _ h9 => h9) rfl d_M_isTrialBetter_17 ?_
        refine lv_lmul hx hb d_M_isTrialBetter_20 ?_
        refine lv_lstore_n (lv' := [(2, .long ((u.1 i) * u.2.2.2.1)), (0, .ref h), (1, .int (nI i))]) hx hb d_M_isTrialBetter_21 rfl hl (by decide) rfl (fun ls hl => ?_)
        refine lv_aload_n hx hb d_M_isTrialBetter_22 rfl (lv_at hl 1 rfl) ?_
        refine va_get (D := (dC, dI)) (ci := 1) (v := .ref aB) (C := R_M) (T := T_M) (N := 9) hx hb hts iT_M hown hK hP 0 rfl rfl 6 (by decide) (hts _ wd_42) (fun _ h9 => h9) rfl d_M_isTrialBetter_23 ?_
        refine lv_iload_n hx hb d_M_isTrialBetter_26 rfl (lv_at hl 2 rfl) ?_
        refine k_lald (j := i) hx hb hK hP 5 0 rfl rfl (by omega) (by decide) d_M_isTrialBetter_27 ?_
        refine lv_aload_n hx hb d_M_isTrialBetter_28 rfl (lv_at hl 1 rfl) ?_
        refine va_get (D := (dC, dI)) (ci := 1) (v := .long u.2.1) (C := R_M) (T := T_M) (N := 9) hx hb hts iT_M hown hK hP 0 rfl rfl 5 (by decide) (hts _ wd_41) (fun _ h9 => h9) rfl d_M_isTrialBetter_29 ?_
        refine lv_lmul hx hb d_M_isTrialBetter_32 ?_
        refine lv_lstore (lv' := [(4, .long ((u.2.2.1 i) * u.2.1)), (2, .long ((u.1 i) * u.2.2.2.1)), (0, .ref h), (1, .int (nI i))]) hx hb d_M_isTrialBetter_33 hl (by decide) rfl (fun ls hl => ?_)
        refine lv_lload_n hx hb d_M_isTrialBetter_35 rfl (lv_at hl 1 rfl) ?_
        refine lv_lload hx hb d_M_isTrialBetter_36 (lv_at hl 0 rfl) ?_
        refine k_jeq (tgt := 55) hx hb d_M_isTrialBetter_38 d_M_isTrialBetter_39 (by decide) (fun c_38 => ?_) (fun c_38 => ?_)
        · refine lv_iinc (v := nI (i + 1)) (lv' := [(1, .int (nI (i + 1))), (4, .long ((u.2.2.1 i) * u.2.1)), (2, .long ((u.1 i) * u.2.2.2.1)), (0, .ref h)]) hx hb d_M_isTrialBetter_55 hl (k := 3) rfl (nI_add i 1) (by decide) rfl (fun ls hl => ?_)
          refine lv_goto (tgt := 2) hx hb d_M_isTrialBetter_58 (by decide) ?_
          exact ih_2 (i + 1) (by omega) ((fdN_go (P := fun j => decide (¬ u.1 j * u.2.2.2.1 = u.2.2.1 j * u.2.1)) c_7 (decide_eq_false (fun h => h c_38))).symm.trans hv) (by omega) _ _ _ hP hD hS (lv_sub hl [3, 0] rfl)
        · refine lv_lload_n hx hb d_M_isTrialBetter_42 rfl (lv_at hl 1 rfl) ?_
          refine lv_lload hx hb d_M_isTrialBetter_43 (lv_at hl 0 rfl) ?_
          refine k_jle (tgt := 53) hx hb d_M_isTrialBetter_45 d_M_isTrialBetter_46 (by decide) (fun c_45 => ?_) (fun c_45 => ?_)
          · refine lv_iconst (v := nI 0) hx hb d_M_isTrialBetter_53 (by decide) ?_
            exact k_zret (v := nI 0) hx hb hr hlocks rfl () (by first | (unfold btB; rw [← hv, fdN_hit (P := fun j => decide (¬ u.1 j * u.2.2.2.1 = u.2.2.1 j * u.2.1)) c_7 (decide_eq_true c_38), decide_eq_true c_7, decide_eq_true c_45]; rfl) | (unfold btB; rw [← hv, fdN_hit (P := fun j => decide (¬ u.1 j * u.2.2.2.1 = u.2.2.1 j * u.2.1)) c_7 (decide_eq_true c_38), decide_eq_true c_7, decide_eq_false (Int64.not_lt.mpr c_45)]; rfl)) hP hD hK hS [0, 1, 2, 3, 4, 5] (by decide) rfl d_M_isTrialBetter_54
          · refine lv_iconst (v := nI 1) hx hb d_M_isTrialBetter_49 (by decide) ?_
            refine lv_goto (tgt := 54) hx hb d_M_isTrialBetter_50 (by decide) ?_
            exact k_zret (v := nI 1) hx hb hr hlocks rfl () (by first | (unfold btB; rw [← hv, fdN_hit (P := fun j => decide (¬ u.1 j * u.2.2.2.1 = u.2.2.1 j * u.2.1)) c_7 (decide_eq_true c_38), decide_eq_true c_7, decide_eq_true c_45]; rfl) | (unfold btB; rw [← hv, fdN_hit (P := fun j => decide (¬ u.1 j * u.2.2.2.1 = u.2.2.1 j * u.2.1)) c_7 (decide_eq_true c_38), decide_eq_true c_7, decide_eq_false (Int64.not_lt.mpr c_45)]; rfl)) hP hD hK hS [0, 1, 2, 3, 4, 5] (by decide) rfl d_M_isTrialBetter_54
  exact loop_2 (n + 1) 0 (by omega) rfl (by omega) _ _ _ hP hD hS (lv_sub hl [1, 0] rfl)
/-- M_keepIfBetter -/
abbrev q_M_keepIfBetter (dC : Nat → ClassId) (dI : Nat → Nat → Nat) (cJ cI cZ : ClassId) (h : Nat) (aL : Nat) (aF : Nat) (aS : Nat) (aT : Nat) (aB : Nat) (ml : Nat → Int32) (n : Nat) (mf : Nat → Int64) (ms : Nat → Int64) (u : MixS) (A : Nat → Prop) : Array Value → State → Outcome → State → Prop := va_Qv (fun (_ : Unit) => True) (kB (dC, dI) vwCl [(cJ, .long), (cI, .int), (cZ, .boolean)] A (fun (_ : Unit) => [(h, .inr (1, [.ref aL, .int (nI n), .ref aF, .ref aS, .ref aT, .long ((keepF n u).2.1), .ref aB, .long ((keepF n u).2.2.2.1), .int (zI ((keepF n u).2.2.2.2))])), (aL, .inl (cI, 4, .inl ml)), (aF, .inl (cJ, 5, .inr (.inl mf))), (aS, .inl (cJ, 5, .inr (.inl ms))), (aT, .inl (cJ, 4, .inr (.inl ((keepF n u).1)))), (aB, .inl (cJ, 4, .inr (.inl ((keepF n u).2.2.1))))])) A
set_option maxHeartbeats 4000000 in
set_option maxRecDepth 100000 in
theorem k_M_keepIfBetter (l : Launch) (dC : Nat → ClassId) (dI : Nat → Nat → Nat) (cJ cI cZ : ClassId) (sz : Nat) (h : Nat) (aL : Nat) (aF : Nat) (aS : Nat) (aT : Nat) (aB : Nat) (ml : Nat → Int32) (n : Nat) (mf : Nat → Int64) (ms : Nat → Int64) (u : MixS) (hn : n ≤ 4) : Met l y_M_keepIfBetter w_M_keepIfBetter { frames := 1, cells := 0, slots := 0, locals := 25 } (kPc (dC, dI) vwCl [(cJ, .long), (cI, .int), (cZ, .boolean)] [(h, .inr (1, [.ref aL, .int (nI n), .ref aF, .ref aS, .ref aT, .long u.2.1, .ref aB, .long u.2.2.2.1, .int (zI u.2.2.2.2)])), (aL, .inl (cI, 4, .inl ml)), (aF, .inl (cJ, 5, .inr (.inl mf))), (aS, .inl (cJ, 5, .inr (.inl ms))), (aT, .inl (cJ, 4, .inr (.inl u.1))), (aB, .inl (cJ, 4, .inr (.inl u.2.2.1)))] sz [.ref h]) (q_M_keepIfBetter dC dI cJ cI cZ h aL aF aS aT aB ml n mf ms u (va_A [(h, .inr (1, [.ref aL, .int (nI n), .ref aF, .ref aS, .ref aT, .long u.2.1, .ref aB, .long u.2.2.2.1, .int (zI u.2.2.2.2)])), (aL, .inl (cI, 4, .inl ml)), (aF, .inl (cJ, 5, .inr (.inl mf))), (aS, .inl (cJ, 5, .inr (.inl ms))), (aT, .inl (cJ, 4, .inr (.inl u.1))), (aB, .inl (cJ, 4, .inr (.inl u.2.2.1)))] sz)) 0 0 (va_A [(h, .inr (1, [.ref aL, .int (nI n), .ref aF, .ref aS, .ref aT, .long u.2.1, .ref aB, .long u.2.2.2.1, .int (zI u.2.2.2.2)])), (aL, .inl (cI, 4, .inl ml)), (aF, .inl (cJ, 5, .inr (.inl mf))), (aS, .inl (cJ, 5, .inr (.inl ms))), (aT, .inl (cJ, 4, .inr (.inl u.1))), (aB, .inl (cJ, 4, .inr (.inl u.2.2.1)))] sz) := by
  refine k_met (q_M_keepIfBetter dC dI cJ cI cZ h aL aF aS aT aB ml n mf ms u) (by decide +kernel) rfl (Nat.le_of_ble_eq_true rfl) ?_
  intro p e s m below meth c A hx hb hr hml hown hts hlocks hin hA H hP hK hD hS ls hl
  have hl : lv_has ls 2 [(0, .ref h)] := hl
  have hown : s.vm.findClass R_M = some m.cls := hown
  have hts : ∀ wW ∈ kT, wW.before [.ref h].toArray s = true := fun wW hW => hts wW (List.mem_cons_of_mem _ hW)
  have cut_22 : ∀ (hkb : keepB n u = true) (H : Heap) (locs : List Loc) (ls : Array Slot), va_P (dC, dI) vwCl [(h, .inr (1, [.ref aL, .int (nI n), .ref aF, .ref aS, .ref aT, .long u.2.1, .ref aB, .long u.2.2.2.1, .int (zI u.2.2.2.2)])), (aL, .inl (cI, 4, .inl ml)), (aF, .inl (cJ, 5, .inr (.inl mf))), (aS, .inl (cJ, 5, .inr (.inl ms))), (aT, .inl (cJ, 4, .inr (.inl u.1))), (aB, .inl (cJ, 4, .inr (.inl u.2.2.1)))] H → va_D A [(h, .inr (1, [.ref aL, .int (nI n), .ref aF, .ref aS, .ref aT, .long u.2.1, .ref aB, .long u.2.2.2.1, .int (zI u.2.2.2.2)])), (aL, .inl (cI, 4, .inl ml)), (aF, .inl (cJ, 5, .inr (.inl mf))), (aS, .inl (cJ, 5, .inr (.inl ms))), (aT, .inl (cJ, 4, .inr (.inl u.1))), (aB, .inl (cJ, 4, .inr (.inl u.2.2.1)))] → va_S A s.heap H locs → lv_has ls 2 [(0, .ref h)] → W p l e { frames := 1, cells := 0, slots := 0, locals := 25 } s m [.ref h].toArray below meth c H locs 0 0 (MQ below (q_M_keepIfBetter dC dI cJ cI cZ h aL aF aS aT aB ml n mf ms u A) [.ref h].toArray s 0 0 A) (F0 m 22 ls []) := by
    intro hkb H locs ls hP hD hS hl
    refine lv_iconst (v := nI 0) hx hb d_M_keepIfBetter_22 (by decide) ?_
    refine lv_istore_n (lv' := [(1, .int (nI 0)), (0, .ref h)]) hx hb d_M_keepIfBetter_23 rfl hl (by decide) rfl (fun ls hl => ?_)
    have hP : va_P (dC, dI) vwCl [(h, .inr (1, [.ref aL, .int (nI n), .ref aF, .ref aS, .ref aT, .long u.2.1, .ref aB, .long u.2.2.2.1, .int (zI u.2.2.2.2)])), (aL, .inl (cI, 4, .inl ml)), (aF, .inl (cJ, 5, .inr (.inl mf))), (aS, .inl (cJ, 5, .inr (.inl ms))), (aT, .inl (cJ, 4, .inr (.inl u.1))), (aB, .inl (cJ, 4, .inr (.inl ((u.1, u.2.1, cpy 0 u.1 u.2.2.1, u.2.2.2).2.2.1))))] H := by rw [show (u.1, u.2.1, cpy 0 u.1 u.2.2.1, u.2.2.2).2.2.1 = u.2.2.1 from cpy_0 u.1 u.2.2.1]; exact hP
    have hD : va_D A [(h, .inr (1, [.ref aL, .int (nI n), .ref aF, .ref aS, .ref aT, .long u.2.1, .ref aB, .long u.2.2.2.1, .int (zI u.2.2.2.2)])), (aL, .inl (cI, 4, .inl ml)), (aF, .inl (cJ, 5, .inr (.inl mf))), (aS, .inl (cJ, 5, .inr (.inl ms))), (aT, .inl (cJ, 4, .inr (.inl u.1))), (aB, .inl (cJ, 4, .inr (.inl ((u.1, u.2.1, cpy 0 u.1 u.2.2.1, u.2.2.2).2.2.1))))] := by rw [show (u.1, u.2.1, cpy 0 u.1 u.2.2.1, u.2.2.2).2.2.1 = u.2.2.1 from cpy_0 u.1 u.2.2.1]; exact hD
    have hP : va_P (dC, dI) vwCl [(h, .inr (1, [.ref aL, .int (nI n), .ref aF, .ref aS, .ref aT, .long ((u.1, u.2.1, cpy 0 u.1 u.2.2.1, u.2.2.2).2.1), .ref aB, .long ((u.1, u.2.1, cpy 0 u.1 u.2.2.1, u.2.2.2).2.2.2.1), .int (zI ((u.1, u.2.1, cpy 0 u.1 u.2.2.1, u.2.2.2).2.2.2.2))])), (aL, .inl (cI, 4, .inl ml)), (aF, .inl (cJ, 5, .inr (.inl mf))), (aS, .inl (cJ, 5, .inr (.inl ms))), (aT, .inl (cJ, 4, .inr (.inl ((u.1, u.2.1, cpy 0 u.1 u.2.2.1, u.2.2.2).1)))), (aB, .inl (cJ, 4, .inr (.inl ((u.1, u.2.1, cpy 0 u.1 u.2.2.1, u.2.2.2).2.2.1))))] H := hP
    have hD : va_D A [(h, .inr (1, [.ref aL, .int (nI n), .ref aF, .ref aS, .ref aT, .long ((u.1, u.2.1, cpy 0 u.1 u.2.2.1, u.2.2.2).2.1), .ref aB, .long ((u.1, u.2.1, cpy 0 u.1 u.2.2.1, u.2.2.2).2.2.2.1), .int (zI ((u.1, u.2.1, cpy 0 u.1 u.2.2.1, u.2.2.2).2.2.2.2))])), (aL, .inl (cI, 4, .inl ml)), (aF, .inl (cJ, 5, .inr (.inl mf))), (aS, .inl (cJ, 5, .inr (.inl ms))), (aT, .inl (cJ, 4, .inr (.inl ((u.1, u.2.1, cpy 0 u.1 u.2.2.1, u.2.2.2).1)))), (aB, .inl (cJ, 4, .inr (.inl ((u.1, u.2.1, cpy 0 u.1 u.2.2.1, u.2.2.2).2.2.1))))] := hD
    have loop_24 : ∀ (fu_24 : Nat) (i : Nat) (hi : i ≤ 4) (hfu_24 : 5 ≤ i + fu_24) (H : Heap) (locs : List Loc) (ls : Array Slot), va_P (dC, dI) vwCl [(h, .inr (1, [.ref aL, .int (nI n), .ref aF, .ref aS, .ref aT, .long ((u.1, u.2.1, cpy i u.1 u.2.2.1, u.2.2.2).2.1), .ref aB, .long ((u.1, u.2.1, cpy i u.1 u.2.2.1, u.2.2.2).2.2.2.1), .int (zI ((u.1, u.2.1, cpy i u.1 u.2.2.1, u.2.2.2).2.2.2.2))])), (aL, .inl (cI, 4, .inl ml)), (aF, .inl (cJ, 5, .inr (.inl mf))), (aS, .inl (cJ, 5, .inr (.inl ms))), (aT, .inl (cJ, 4, .inr (.inl ((u.1, u.2.1, cpy i u.1 u.2.2.1, u.2.2.2).1)))), (aB, .inl (cJ, 4, .inr (.inl ((u.1, u.2.1, cpy i u.1 u.2.2.1, u.2.2.2).2.2.1))))] H → va_D A [(h, .inr (1, [.ref aL, .int (nI n), .ref aF, .ref aS, .ref aT, .long ((u.1, u.2.1, cpy i u.1 u.2.2.1, u.2.2.2).2.1), .ref aB, .long ((u.1, u.2.1, cpy i u.1 u.2.2.1, u.2.2.2).2.2.2.1), .int (zI ((u.1, u.2.1, cpy i u.1 u.2.2.1, u.2.2.2).2.2.2.2))])), (aL, .inl (cI, 4, .inl ml)), (aF, .inl (cJ, 5, .inr (.inl mf))), (aS, .inl (cJ, 5, .inr (.inl ms))), (aT, .inl (cJ, 4, .inr (.inl ((u.1, u.2.1, cpy i u.1 u.2.2.1, u.2.2.2).1)))), (aB, .inl (cJ, 4, .inr (.inl ((u.1, u.2.1, cpy i u.1 u.2.2.1, u.2.2.2).2.2.1))))] → va_S A s.heap H locs → lv_has ls 2 [(0, .ref h), (1, .int (nI i))] → W p l e { frames := 1, cells := 0, slots := 0, locals := 25 } s m [.ref h].toArray below meth c H locs 0 0 (MQ below (q_M_keepIfBetter dC dI cJ cI cZ h aL aF aS aT aB ml n mf ms u A) [.ref h].toArray s 0 0 A) (F0 m 24 ls []) := by
      intro fu_24
      induction fu_24 with
      | zero =>
        intro i hi hfu_24 H locs ls hP hD hS hl
        exact absurd hfu_24 (by omega)
      | succ fu_24 ih_24 =>
        intro i hi hfu_24 H locs ls hP hD hS hl
        refine lv_iload_n hx hb d_M_keepIfBetter_24 rfl (lv_at hl 1 rfl) ?_
        refine lv_iconst (v := nI 4) hx hb d_M_keepIfBetter_25 (by decide) ?_
        refine k_nge (tgt := 47) hx hb d_M_keepIfBetter_26 (by decide) (by omega) (by omega) (fun c_26 => ?_) (fun c_26 => ?_)
        · obtain rfl : i = 4 := by omega
          refine lv_aload_n hx hb d_M_keepIfBetter_47 rfl (lv_at hl 0 rfl) ?_
          refine lv_aload_n hx hb d_M_keepIfBetter_48 rfl (lv_at hl 0 rfl) ?_
          refine va_get (D := (dC, dI)) (ci := 1) (v := .long ((u.1, u.2.1, cpy 4 u.1 u.2.2.1, u.2.2.2).2.1)) (C := R_M) (T := T_M) (N := 9) hx hb hts iT_M hown hK hP 0 rfl rfl 5 (by decide) (hts _ wd_41) (fun _ h9 => h9) rfl d_M_keepIfBetter_49 ?_
          refine va_put (D := (dC, dI)) (ci := 1) (v := .long ((u.1, u.2.1, cpy 4 u.1 u.2.2.1, u.2.2.2).2.1)) (ty := .long) (C := R_M) (T := T_M) (N := 9) hx hb hts iT_M t_M t_M_ok n_M hown hK hP hD hS 0 rfl rfl 7 (by decide) (hts _ wd_43) (fun _ h9 => h9) rfl (by decide +kernel) rfl rfl (Nat.le_of_ble_eq_true rfl) d_M_keepIfBetter_52 (fun H locs hP hD hS => ?_)
          have hP : va_P (dC, dI) vwCl [(h, .inr (1, [.ref aL, .int (nI n), .ref aF, .ref aS, .ref aT, .long ((u.1, u.2.1, cpy 4 u.1 u.2.2.1, u.2.2.2).2.1), .ref aB, .long ((u.1, u.2.1, cpy 4 u.1 u.2.2.1, u.2.2.2).2.1), .int (zI ((u.1, u.2.1, cpy 4 u.1 u.2.2.1, u.2.2.2).2.2.2.2))])), (aL, .inl (cI, 4, .inl ml)), (aF, .inl (cJ, 5, .inr (.inl mf))), (aS, .inl (cJ, 5, .inr (.inl ms))), (aT, .inl (cJ, 4, .inr (.inl ((u.1, u.2.1, cpy 4 u.1 u.2.2.1, u.2.2.2).1)))), (aB, .inl (cJ, 4, .inr (.inl ((u.1, u.2.1, cpy 4 u.1 u.2.2.1, u.2.2.2).2.2.1))))] H := hP
          have hD : va_D A [(h, .inr (1, [.ref aL, .int (nI n), .ref aF, .ref aS, .ref aT, .long ((u.1, u.2.1, cpy 4 u.1 u.2.2.1, u.2.2.2).2.1), .ref aB, .long ((u.1, u.2.1, cpy 4 u.1 u.2.2.1, u.2.2.2).2.1), .int (zI ((u.1, u.2.1, cpy 4 u.1 u.2.2.1, u.2.2.2).2.2.2.2))])), (aL, .inl (cI, 4, .inl ml)), (aF, .inl (cJ, 5, .inr (.inl mf))), (aS, .inl (cJ, 5, .inr (.inl ms))), (aT, .inl (cJ, 4, .inr (.inl ((u.1, u.2.1, cpy 4 u.1 u.2.2.1, u.2.2.2).1)))), (aB, .inl (cJ, 4, .inr (.inl ((u.1, u.2.1, cpy 4 u.1 u.2.2.1, u.2.2.2).2.2.1))))] := hD
          refine lv_aload_n hx hb d_M_keepIfBetter_55 rfl (lv_at hl 0 rfl) ?_
          refine lv_iconst (v := nI 1) hx hb d_M_keepIfBetter_56 (by decide) ?_
          refine k_toi (y := zI true) (by decide) ?_
          refine va_put (D := (dC, dI)) (ci := 1) (v := .int (zI true)) (ty := .boolean) (C := R_M) (T := T_M) (N := 9) hx hb hts iT_M t_M t_M_ok n_M hown hK hP hD hS 0 rfl rfl 8 (by decide) (hts _ wd_44) (fun _ h9 => h9) rfl (by decide +kernel) rfl rfl (Nat.le_of_ble_eq_true rfl) d_M_keepIfBetter_57 (fun H locs hP hD hS => ?_)
          have hP : va_P (dC, dI) vwCl [(h, .inr (1, [.ref aL, .int (nI n), .ref aF, .ref aS, .ref aT, .long ((u.1, u.2.1, cpy 4 u.1 u.2.2.1, u.2.2.2).2.1), .ref aB, .long ((u.1, u.2.1, cpy 4 u.1 u.2.2.1, u.2.2.2).2.1), .int (zI true)])), (aL, .inl (cI, 4, .inl ml)), (aF, .inl (cJ, 5, .inr (.inl mf))), (aS, .inl (cJ, 5, .inr (.inl ms))), (aT, .inl (cJ, 4, .inr (.inl ((u.1, u.2.1, cpy 4 u.1 u.2.2.1, u.2.2.2).1)))), (aB, .inl (cJ, 4, .inr (.inl ((u.1, u.2.1, cpy 4 u.1 u.2.2.1, u.2.2.2).2.2.1))))] H := hP
          have hD : va_D A [(h, .inr (1, [.ref aL, .int (nI n), .ref aF, .ref aS, .ref aT, .long ((u.1, u.2.1, cpy 4 u.1 u.2.2.1, u.2.2.2).2.1), .ref aB, .long ((u.1, u.2.1, cpy 4 u.1 u.2.2.1, u.2.2.2).2.1), .int (zI true)])), (aL, .inl (cI, 4, .inl ml)), (aF, .inl (cJ, 5, .inr (.inl mf))), (aS, .inl (cJ, 5, .inr (.inl ms))), (aT, .inl (cJ, 4, .inr (.inl ((u.1, u.2.1, cpy 4 u.1 u.2.2.1, u.2.2.2).1)))), (aB, .inl (cJ, 4, .inr (.inl ((u.1, u.2.1, cpy 4 u.1 u.2.2.1, u.2.2.2).2.2.1))))] := hD
          have hq9 : keepF n u = (u.1, u.2.1, cpy 4 u.1 u.2.2.1, u.2.1, true) := by unfold keepF; rw [if_pos hkb]
          have hP : va_P (dC, dI) vwCl [(h, .inr (1, [.ref aL, .int (nI n), .ref aF, .ref aS, .ref aT, .long ((keepF n u).2.1), .ref aB, .long ((keepF n u).2.2.2.1), .int (zI ((keepF n u).2.2.2.2))])), (aL, .inl (cI, 4, .inl ml)), (aF, .inl (cJ, 5, .inr (.inl mf))), (aS, .inl (cJ, 5, .inr (.inl ms))), (aT, .inl (cJ, 4, .inr (.inl ((keepF n u).1)))), (aB, .inl (cJ, 4, .inr (.inl ((keepF n u).2.2.1))))] H := by rw [hq9]; exact hP
          have hD : va_D A [(h, .inr (1, [.ref aL, .int (nI n), .ref aF, .ref aS, .ref aT, .long ((keepF n u).2.1), .ref aB, .long ((keepF n u).2.2.2.1), .int (zI ((keepF n u).2.2.2.2))])), (aL, .inl (cI, 4, .inl ml)), (aF, .inl (cJ, 5, .inr (.inl mf))), (aS, .inl (cJ, 5, .inr (.inl ms))), (aT, .inl (cJ, 4, .inr (.inl ((keepF n u).1)))), (aB, .inl (cJ, 4, .inr (.inl ((keepF n u).2.2.1))))] := by rw [hq9]; exact hD
          exact k_vret hx hb hr hlocks () trivial hP hD hK hS [0, 1, 2, 3, 4, 5] (by decide) rfl d_M_keepIfBetter_60
        · refine lv_aload_n hx hb d_M_keepIfBetter_29 rfl (lv_at hl 0 rfl) ?_
          refine va_get (D := (dC, dI)) (ci := 1) (v := .ref aB) (C := R_M) (T := T_M) (N := 9) hx hb hts iT_M hown hK hP 0 rfl rfl 6 (by decide) (hts _ wd_42) (fun _ h9 => h9) rfl d_M_keepIfBetter_30 ?_
          refine lv_iload_n hx hb d_M_keepIfBetter_33 rfl (lv_at hl 1 rfl) ?_
          refine lv_aload_n hx hb d_M_keepIfBetter_34 rfl (lv_at hl 0 rfl) ?_
          refine va_get (D := (dC, dI)) (ci := 1) (v := .ref aT) (C := R_M) (T := T_M) (N := 9) hx hb hts iT_M hown hK hP 0 rfl rfl 4 (by decide) (hts _ wd_40) (fun _ h9 => h9) rfl d_M_keepIfBetter_35 ?_
          refine lv_iload_n hx hb d_M_keepIfBetter_38 rfl (lv_at hl 1 rfl) ?_
          refine k_lald (j := i) hx hb hK hP 4 0 rfl rfl (by omega) (by decide) d_M_keepIfBetter_39 ?_
          refine k_last (j := i) hx hb hK hP hD hS 5 0 rfl rfl (by omega) (by decide) d_M_keepIfBetter_40 (fun H locs hP hD hS => ?_)
          have ef_40 : vp_updL ((u.1, u.2.1, cpy i u.1 u.2.2.1, u.2.2.2).2.2.1) i (((u.1, u.2.1, cpy i u.1 u.2.2.1, u.2.2.2).1) i) = (u.1, u.2.1, cpy (i + 1) u.1 u.2.2.1, u.2.2.2).2.2.1 := cpy_step u.1 u.2.2.1 i
          rw [ef_40] at hP hD
          have hP : va_P (dC, dI) vwCl [(h, .inr (1, [.ref aL, .int (nI n), .ref aF, .ref aS, .ref aT, .long ((u.1, u.2.1, cpy i u.1 u.2.2.1, u.2.2.2).2.1), .ref aB, .long ((u.1, u.2.1, cpy i u.1 u.2.2.1, u.2.2.2).2.2.2.1), .int (zI ((u.1, u.2.1, cpy i u.1 u.2.2.1, u.2.2.2).2.2.2.2))])), (aL, .inl (cI, 4, .inl ml)), (aF, .inl (cJ, 5, .inr (.inl mf))), (aS, .inl (cJ, 5, .inr (.inl ms))), (aT, .inl (cJ, 4, .inr (.inl ((u.1, u.2.1, cpy i u.1 u.2.2.1, u.2.2.2).1)))), (aB, .inl (cJ, 4, .inr (.inl ((u.1, u.2.1, cpy (i + 1) u.1 u.2.2.1, u.2.2.2).2.2.1))))] H := hP
          have hD : va_D A [(h, .inr (1, [.ref aL, .int (nI n), .ref aF, .ref aS, .ref aT, .long ((u.1, u.2.1, cpy i u.1 u.2.2.1, u.2.2.2).2.1), .ref aB, .long ((u.1, u.2.1, cpy i u.1 u.2.2.1, u.2.2.2).2.2.2.1), .int (zI ((u.1, u.2.1, cpy i u.1 u.2.2.1, u.2.2.2).2.2.2.2))])), (aL, .inl (cI, 4, .inl ml)), (aF, .inl (cJ, 5, .inr (.inl mf))), (aS, .inl (cJ, 5, .inr (.inl ms))), (aT, .inl (cJ, 4, .inr (.inl ((u.1, u.2.1, cpy i u.1 u.2.2.1, u.2.2.2).1)))), (aB, .inl (cJ, 4, .inr (.inl ((u.1, u.2.1, cpy (i + 1) u.1 u.2.2.1, u.2.2.2).2.2.1))))] := hD
          have hP : va_P (dC, dI) vwCl [(h, .inr (1, [.ref aL, .int (nI n), .ref aF, .ref aS, .ref aT, .long ((u.1, u.2.1, cpy (i + 1) u.1 u.2.2.1, u.2.2.2).2.1), .ref aB, .long ((u.1, u.2.1, cpy (i + 1) u.1 u.2.2.1, u.2.2.2).2.2.2.1), .int (zI ((u.1, u.2.1, cpy (i + 1) u.1 u.2.2.1, u.2.2.2).2.2.2.2))])), (aL, .inl (cI, 4, .inl ml)), (aF, .inl (cJ, 5, .inr (.inl mf))), (aS, .inl (cJ, 5, .inr (.inl ms))), (aT, .inl (cJ, 4, .inr (.inl ((u.1, u.2.1, cpy (i + 1) u.1 u.2.2.1, u.2.2.2).1)))), (aB, .inl (cJ, 4, .inr (.inl ((u.1, u.2.1, cpy (i + 1) u.1 u.2.2.1, u.2.2.2).2.2.1))))] H := hP
          have hD : va_D A [(h, .inr (1, [.ref aL, .int (nI n), .ref aF, .ref aS, .ref aT, .long ((u.1, u.2.1, cpy (i + 1) u.1 u.2.2.1, u.2.2.2).2.1), .ref aB, .long ((u.1, u.2.1, cpy (i + 1) u.1 u.2.2.1, u.2.2.2).2.2.2.1), .int (zI ((u.1, u.2.1, cpy (i + 1) u.1 u.2.2.1, u.2.2.2).2.2.2.2))])), (aL, .inl (cI, 4, .inl ml)), (aF, .inl (cJ, 5, .inr (.inl mf))), (aS, .inl (cJ, 5, .inr (.inl ms))), (aT, .inl (cJ, 4, .inr (.inl ((u.1, u.2.1, cpy (i + 1) u.1 u.2.2.1, u.2.2.2).1)))), (aB, .inl (cJ, 4, .inr (.inl ((u.1, u.2.1, cpy (i + 1) u.1 u.2.2.1, u.2.2.2).2.2.1))))] := hD
          refine lv_iinc (v := nI (i + 1)) (lv' := [(1, .int (nI (i + 1))), (0, .ref h)]) hx hb d_M_keepIfBetter_41 hl (k := 1) rfl (nI_add i 1) (by decide) rfl (fun ls hl => ?_)
          refine lv_goto (tgt := 24) hx hb d_M_keepIfBetter_44 (by decide) ?_
          exact ih_24 (i + 1) (by omega) (by omega) _ _ _ hP hD hS (lv_sub hl [1, 0] rfl)
    exact loop_24 5 0 (by omega) (by omega) _ _ _ hP hD hS (lv_sub hl [1, 0] rfl)
  refine lv_aload_n hx hb d_M_keepIfBetter_0 rfl (lv_at hl 0 rfl) ?_
  refine k_calli (wr := []) (va_runV (As := []) (rest := []) ⟨hx, hb, hml, hown, hts⟩ (k_M_isTrialPossible l dC dI cJ cI cZ _ h aL aF aS aT aB ml n mf ms u (by omega)) (k_cw (y := y_M_isTrialPossible) (own := R_M) hts wd_136 wd_26 wd_132 wd_130 wd_131 hd_M_isTrialPossible ⟨Nat.le_of_ble_eq_true rfl, Nat.le_of_ble_eq_true rfl⟩) (k_preV (ci := 1) (q0 := 0) hP hD hK [0, 1, 2, 3, 4, 5] rfl (by decide) rfl rfl) rfl rfl hl.1 rfl (lv_room (Nat.le_of_ble_eq_true rfl)) d_M_keepIfBetter_1 ⟨Nat.le_of_ble_eq_true rfl, Nat.le_of_ble_eq_true rfl⟩) hP hD hS hA [0, 1, 2, 3, 4, 5] [] rfl rfl (by decide) (by decide) (fun r_1 uu H locs hpo hP hD hS => ?_)
  have hpo : r_1 = zI (posB u.1 n) := hpo
  subst hpo
  have hP : va_P (dC, dI) vwCl [(h, .inr (1, [.ref aL, .int (nI n), .ref aF, .ref aS, .ref aT, .long u.2.1, .ref aB, .long u.2.2.2.1, .int (zI u.2.2.2.2)])), (aL, .inl (cI, 4, .inl ml)), (aF, .inl (cJ, 5, .inr (.inl mf))), (aS, .inl (cJ, 5, .inr (.inl ms))), (aT, .inl (cJ, 4, .inr (.inl u.1))), (aB, .inl (cJ, 4, .inr (.inl u.2.2.1)))] H := hP
  have hD : va_D A [(h, .inr (1, [.ref aL, .int (nI n), .ref aF, .ref aS, .ref aT, .long u.2.1, .ref aB, .long u.2.2.2.1, .int (zI u.2.2.2.2)])), (aL, .inl (cI, 4, .inl ml)), (aF, .inl (cJ, 5, .inr (.inl mf))), (aS, .inl (cJ, 5, .inr (.inl ms))), (aT, .inl (cJ, 4, .inr (.inl u.1))), (aB, .inl (cJ, 4, .inr (.inl u.2.2.1)))] := hD
  refine k_zeq (tgt := 21) hx hb d_M_keepIfBetter_4 (by decide) (fun c_4 => ?_) (fun c_4 => ?_)
  · have hq9 : keepF n u = u := by first | (unfold keepF keepB; rw [c_4]; rfl) | (unfold keepF keepB; rw [c_4, c_11, c_18]; rfl)
    have hP : va_P (dC, dI) vwCl [(h, .inr (1, [.ref aL, .int (nI n), .ref aF, .ref aS, .ref aT, .long ((keepF n u).2.1), .ref aB, .long ((keepF n u).2.2.2.1), .int (zI ((keepF n u).2.2.2.2))])), (aL, .inl (cI, 4, .inl ml)), (aF, .inl (cJ, 5, .inr (.inl mf))), (aS, .inl (cJ, 5, .inr (.inl ms))), (aT, .inl (cJ, 4, .inr (.inl ((keepF n u).1)))), (aB, .inl (cJ, 4, .inr (.inl ((keepF n u).2.2.1))))] H := by rw [hq9]; exact hP
    have hD : va_D A [(h, .inr (1, [.ref aL, .int (nI n), .ref aF, .ref aS, .ref aT, .long ((keepF n u).2.1), .ref aB, .long ((keepF n u).2.2.2.1), .int (zI ((keepF n u).2.2.2.2))])), (aL, .inl (cI, 4, .inl ml)), (aF, .inl (cJ, 5, .inr (.inl mf))), (aS, .inl (cJ, 5, .inr (.inl ms))), (aT, .inl (cJ, 4, .inr (.inl ((keepF n u).1)))), (aB, .inl (cJ, 4, .inr (.inl ((keepF n u).2.2.1))))] := by rw [hq9]; exact hD
    exact k_vret hx hb hr hlocks () trivial hP hD hK hS [0, 1, 2, 3, 4, 5] (by decide) rfl d_M_keepIfBetter_21
  · refine lv_aload_n hx hb d_M_keepIfBetter_7 rfl (lv_at hl 0 rfl) ?_
    refine va_get (D := (dC, dI)) (ci := 1) (v := .int (zI u.2.2.2.2)) (C := R_M) (T := T_M) (N := 9) hx hb hts iT_M hown hK hP 0 rfl rfl 8 (by decide) (hts _ wd_44) (fun _ h9 => h9) rfl d_M_keepIfBetter_8 ?_
    refine k_zeq (tgt := 22) hx hb d_M_keepIfBetter_11 (by decide) (fun c_11 => ?_) (fun c_11 => ?_)
    · exact cut_22 (by unfold keepB; rw [c_4, c_11]; rfl) _ _ _ hP hD hS hl
    · refine lv_aload_n hx hb d_M_keepIfBetter_14 rfl (lv_at hl 0 rfl) ?_
      refine k_calli (wr := []) (va_runV (As := []) (rest := []) ⟨hx, hb, hml, hown, hts⟩ (k_M_isTrialBetter l dC dI cJ cI cZ _ h aL aF aS aT aB ml n mf ms u (by omega)) (k_cw (y := y_M_isTrialBetter) (own := R_M) hts wd_137 wd_26 wd_135 wd_133 wd_134 hd_M_isTrialBetter ⟨Nat.le_of_ble_eq_true rfl, Nat.le_of_ble_eq_true rfl⟩) (k_preV (ci := 1) (q0 := 0) hP hD hK [0, 1, 2, 3, 4, 5] rfl (by decide) rfl rfl) rfl rfl hl.1 rfl (lv_room (Nat.le_of_ble_eq_true rfl)) d_M_keepIfBetter_15 ⟨Nat.le_of_ble_eq_true rfl, Nat.le_of_ble_eq_true rfl⟩) hP hD hS hA [0, 1, 2, 3, 4, 5] [] rfl rfl (by decide) (by decide) (fun r_15 uu H locs hpo hP hD hS => ?_)
      have hpo : r_15 = zI (btB u.1 u.2.1 u.2.2.1 u.2.2.2.1 n) := hpo
      subst hpo
      have hP : va_P (dC, dI) vwCl [(h, .inr (1, [.ref aL, .int (nI n), .ref aF, .ref aS, .ref aT, .long u.2.1, .ref aB, .long u.2.2.2.1, .int (zI u.2.2.2.2)])), (aL, .inl (cI, 4, .inl ml)), (aF, .inl (cJ, 5, .inr (.inl mf))), (aS, .inl (cJ, 5, .inr (.inl ms))), (aT, .inl (cJ, 4, .inr (.inl u.1))), (aB, .inl (cJ, 4, .inr (.inl u.2.2.1)))] H := hP
      have hD : va_D A [(h, .inr (1, [.ref aL, .int (nI n), .ref aF, .ref aS, .ref aT, .long u.2.1, .ref aB, .long u.2.2.2.1, .int (zI u.2.2.2.2)])), (aL, .inl (cI, 4, .inl ml)), (aF, .inl (cJ, 5, .inr (.inl mf))), (aS, .inl (cJ, 5, .inr (.inl ms))), (aT, .inl (cJ, 4, .inr (.inl u.1))), (aB, .inl (cJ, 4, .inr (.inl u.2.2.1)))] := hD
      refine k_zne (tgt := 22) hx hb d_M_keepIfBetter_18 (by decide) (fun c_18 => ?_) (fun c_18 => ?_)
      · exact cut_22 (by unfold keepB; rw [c_4, c_18]; simp) _ _ _ hP hD hS hl
      · have hq9 : keepF n u = u := by first | (unfold keepF keepB; rw [c_4]; rfl) | (unfold keepF keepB; rw [c_4, c_11, c_18]; rfl)
        have hP : va_P (dC, dI) vwCl [(h, .inr (1, [.ref aL, .int (nI n), .ref aF, .ref aS, .ref aT, .long ((keepF n u).2.1), .ref aB, .long ((keepF n u).2.2.2.1), .int (zI ((keepF n u).2.2.2.2))])), (aL, .inl (cI, 4, .inl ml)), (aF, .inl (cJ, 5, .inr (.inl mf))), (aS, .inl (cJ, 5, .inr (.inl ms))), (aT, .inl (cJ, 4, .inr (.inl ((keepF n u).1)))), (aB, .inl (cJ, 4, .inr (.inl ((keepF n u).2.2.1))))] H := by rw [hq9]; exact hP
        have hD : va_D A [(h, .inr (1, [.ref aL, .int (nI n), .ref aF, .ref aS, .ref aT, .long ((keepF n u).2.1), .ref aB, .long ((keepF n u).2.2.2.1), .int (zI ((keepF n u).2.2.2.2))])), (aL, .inl (cI, 4, .inl ml)), (aF, .inl (cJ, 5, .inr (.inl mf))), (aS, .inl (cJ, 5, .inr (.inl ms))), (aT, .inl (cJ, 4, .inr (.inl ((keepF n u).1)))), (aB, .inl (cJ, 4, .inr (.inl ((keepF n u).2.2.1))))] := by rw [hq9]; exact hD
        exact k_vret hx hb hr hlocks () trivial hP hD hK hS [0, 1, 2, 3, 4, 5] (by decide) rfl d_M_keepIfBetter_21
end
section
/-- M_tryOne -/
abbrev q_M_tryOne (dC : Nat → ClassId) (dI : Nat → Nat → Nat) (cJ cI cZ : ClassId) (h : Nat) (aL : Nat) (aF : Nat) (aS : Nat) (aT : Nat) (aB : Nat) (ml : Nat → Int32) (n : Nat) (mf : Nat → Int64) (ms : Nat → Int64) (u : MixS) (i : Nat) (A : Nat → Prop) : Array Value → State → Outcome → State → Prop := va_Qv (fun (_ : Unit) => True) (kB (dC, dI) vwCl [(cJ, .long), (cI, .int), (cZ, .boolean)] A (fun (_ : Unit) => [(h, .inr (1, [.ref aL, .int (nI n), .ref aF, .ref aS, .ref aT, .long ((t1F mf ms n i u).2.1), .ref aB, .long ((t1F mf ms n i u).2.2.2.1), .int (zI ((t1F mf ms n i u).2.2.2.2))])), (aL, .inl (cI, 4, .inl ml)), (aF, .inl (cJ, 5, .inr (.inl mf))), (aS, .inl (cJ, 5, .inr (.inl ms))), (aT, .inl (cJ, 4, .inr (.inl ((t1F mf ms n i u).1)))), (aB, .inl (cJ, 4, .inr (.inl ((t1F mf ms n i u).2.2.1))))])) A
set_option maxHeartbeats 4000000 in
set_option maxRecDepth 100000 in
theorem k_M_tryOne (l : Launch) (dC : Nat → ClassId) (dI : Nat → Nat → Nat) (cJ cI cZ : ClassId) (sz : Nat) (h : Nat) (aL : Nat) (aF : Nat) (aS : Nat) (aT : Nat) (aB : Nat) (ml : Nat → Int32) (n : Nat) (mf : Nat → Int64) (ms : Nat → Int64) (u : MixS) (i : Nat) (hn : n ≤ 4) (hi : i < 4) : Met l y_M_tryOne w_M_tryOne { frames := 2, cells := 0, slots := 0, locals := 46 } (kPc (dC, dI) vwCl [(cJ, .long), (cI, .int), (cZ, .boolean)] [(h, .inr (1, [.ref aL, .int (nI n), .ref aF, .ref aS, .ref aT, .long u.2.1, .ref aB, .long u.2.2.2.1, .int (zI u.2.2.2.2)])), (aL, .inl (cI, 4, .inl ml)), (aF, .inl (cJ, 5, .inr (.inl mf))), (aS, .inl (cJ, 5, .inr (.inl ms))), (aT, .inl (cJ, 4, .inr (.inl u.1))), (aB, .inl (cJ, 4, .inr (.inl u.2.2.1)))] sz [.ref h, .int (nI i)]) (q_M_tryOne dC dI cJ cI cZ h aL aF aS aT aB ml n mf ms u i (va_A [(h, .inr (1, [.ref aL, .int (nI n), .ref aF, .ref aS, .ref aT, .long u.2.1, .ref aB, .long u.2.2.2.1, .int (zI u.2.2.2.2)])), (aL, .inl (cI, 4, .inl ml)), (aF, .inl (cJ, 5, .inr (.inl mf))), (aS, .inl (cJ, 5, .inr (.inl ms))), (aT, .inl (cJ, 4, .inr (.inl u.1))), (aB, .inl (cJ, 4, .inr (.inl u.2.2.1)))] sz)) 0 0 (va_A [(h, .inr (1, [.ref aL, .int (nI n), .ref aF, .ref aS, .ref aT, .long u.2.1, .ref aB, .long u.2.2.2.1, .int (zI u.2.2.2.2)])), (aL, .inl (cI, 4, .inl ml)), (aF, .inl (cJ, 5, .inr (.inl mf))), (aS, .inl (cJ, 5, .inr (.inl ms))), (aT, .inl (cJ, 4, .inr (.inl u.1))), (aB, .inl (cJ, 4, .inr (.inl u.2.2.1)))] sz) := by
  refine k_met (q_M_tryOne dC dI cJ cI cZ h aL aF aS aT aB ml n mf ms u i) (by decide +kernel) rfl (Nat.le_of_ble_eq_true rfl) ?_
  intro p e s m below meth c A hx hb hr hml hown hts hlocks hin hA H hP hK hD hS ls hl
  have hl : lv_has ls 2 [(0, .ref h), (1, .int (nI i))] := hl
  have hown : s.vm.findClass R_M = some m.cls := hown
  have hts : ∀ wW ∈ kT, wW.before [.ref h, .int (nI i)].toArray s = true := fun wW hW => hts wW (List.mem_cons_of_mem _ hW)
  refine lv_aload_n hx hb d_M_tryOne_0 rfl (lv_at hl 0 rfl) ?_
  refine va_get (D := (dC, dI)) (ci := 1) (v := .ref aF) (C := R_M) (T := T_M) (N := 9) hx hb hts iT_M hown hK hP 0 rfl rfl 2 (by decide) (hts _ wd_38) (fun _ h9 => h9) rfl d_M_tryOne_1 ?_
  refine lv_iload_n hx hb d_M_tryOne_4 rfl (lv_at hl 1 rfl) ?_
  refine k_lald (j := i) hx hb hK hP 2 0 rfl rfl (by omega) (by decide) d_M_tryOne_5 ?_
  refine lv_aload_n hx hb d_M_tryOne_6 rfl (lv_at hl 0 rfl) ?_
  refine va_get (D := (dC, dI)) (ci := 1) (v := .ref aF) (C := R_M) (T := T_M) (N := 9) hx hb hts iT_M hown hK hP 0 rfl rfl 2 (by decide) (hts _ wd_38) (fun _ h9 => h9) rfl d_M_tryOne_7 ?_
  refine lv_iconst (v := nI 4) hx hb d_M_tryOne_10 (by decide) ?_
  refine k_lald (j := 4) hx hb hK hP 2 0 rfl rfl (by omega) (by decide) d_M_tryOne_11 ?_
  refine k_jne (tgt := 48) hx hb d_M_tryOne_12 d_M_tryOne_13 (by decide) (fun c_12 => ?_) (fun c_12 => ?_)
  · have hq9 : t1F mf ms n i u = u := by first | (unfold t1F; rw [if_neg (fun h => c_12 h.1)]; done) | (unfold t1F; rw [if_neg (fun h => c_28 h.2)]; done)
    have hP : va_P (dC, dI) vwCl [(h, .inr (1, [.ref aL, .int (nI n), .ref aF, .ref aS, .ref aT, .long ((t1F mf ms n i u).2.1), .ref aB, .long ((t1F mf ms n i u).2.2.2.1), .int (zI ((t1F mf ms n i u).2.2.2.2))])), (aL, .inl (cI, 4, .inl ml)), (aF, .inl (cJ, 5, .inr (.inl mf))), (aS, .inl (cJ, 5, .inr (.inl ms))), (aT, .inl (cJ, 4, .inr (.inl ((t1F mf ms n i u).1)))), (aB, .inl (cJ, 4, .inr (.inl ((t1F mf ms n i u).2.2.1))))] H := by rw [hq9]; exact hP
    have hD : va_D A [(h, .inr (1, [.ref aL, .int (nI n), .ref aF, .ref aS, .ref aT, .long ((t1F mf ms n i u).2.1), .ref aB, .long ((t1F mf ms n i u).2.2.2.1), .int (zI ((t1F mf ms n i u).2.2.2.2))])), (aL, .inl (cI, 4, .inl ml)), (aF, .inl (cJ, 5, .inr (.inl mf))), (aS, .inl (cJ, 5, .inr (.inl ms))), (aT, .inl (cJ, 4, .inr (.inl ((t1F mf ms n i u).1)))), (aB, .inl (cJ, 4, .inr (.inl ((t1F mf ms n i u).2.2.1))))] := by rw [hq9]; exact hD
    exact k_vret hx hb hr hlocks () trivial hP hD hK hS [0, 1, 2, 3, 4, 5] (by decide) rfl d_M_tryOne_48
  · refine lv_aload_n hx hb d_M_tryOne_16 rfl (lv_at hl 0 rfl) ?_
    refine va_get (D := (dC, dI)) (ci := 1) (v := .ref aS) (C := R_M) (T := T_M) (N := 9) hx hb hts iT_M hown hK hP 0 rfl rfl 3 (by decide) (hts _ wd_39) (fun _ h9 => h9) rfl d_M_tryOne_17 ?_
    refine lv_iload_n hx hb d_M_tryOne_20 rfl (lv_at hl 1 rfl) ?_
    refine k_lald (j := i) hx hb hK hP 3 0 rfl rfl (by omega) (by decide) d_M_tryOne_21 ?_
    refine lv_aload_n hx hb d_M_tryOne_22 rfl (lv_at hl 0 rfl) ?_
    refine va_get (D := (dC, dI)) (ci := 1) (v := .ref aS) (C := R_M) (T := T_M) (N := 9) hx hb hts iT_M hown hK hP 0 rfl rfl 3 (by decide) (hts _ wd_39) (fun _ h9 => h9) rfl d_M_tryOne_23 ?_
    refine lv_iconst (v := nI 4) hx hb d_M_tryOne_26 (by decide) ?_
    refine k_lald (j := 4) hx hb hK hP 3 0 rfl rfl (by omega) (by decide) d_M_tryOne_27 ?_
    refine k_jne (tgt := 48) hx hb d_M_tryOne_28 d_M_tryOne_29 (by decide) (fun c_28 => ?_) (fun c_28 => ?_)
    · have hq9 : t1F mf ms n i u = u := by first | (unfold t1F; rw [if_neg (fun h => c_12 h.1)]; done) | (unfold t1F; rw [if_neg (fun h => c_28 h.2)]; done)
      have hP : va_P (dC, dI) vwCl [(h, .inr (1, [.ref aL, .int (nI n), .ref aF, .ref aS, .ref aT, .long ((t1F mf ms n i u).2.1), .ref aB, .long ((t1F mf ms n i u).2.2.2.1), .int (zI ((t1F mf ms n i u).2.2.2.2))])), (aL, .inl (cI, 4, .inl ml)), (aF, .inl (cJ, 5, .inr (.inl mf))), (aS, .inl (cJ, 5, .inr (.inl ms))), (aT, .inl (cJ, 4, .inr (.inl ((t1F mf ms n i u).1)))), (aB, .inl (cJ, 4, .inr (.inl ((t1F mf ms n i u).2.2.1))))] H := by rw [hq9]; exact hP
      have hD : va_D A [(h, .inr (1, [.ref aL, .int (nI n), .ref aF, .ref aS, .ref aT, .long ((t1F mf ms n i u).2.1), .ref aB, .long ((t1F mf ms n i u).2.2.2.1), .int (zI ((t1F mf ms n i u).2.2.2.2))])), (aL, .inl (cI, 4, .inl ml)), (aF, .inl (cJ, 5, .inr (.inl mf))), (aS, .inl (cJ, 5, .inr (.inl ms))), (aT, .inl (cJ, 4, .inr (.inl ((t1F mf ms n i u).1)))), (aB, .inl (cJ, 4, .inr (.inl ((t1F mf ms n i u).2.2.1))))] := by rw [hq9]; exact hD
      exact k_vret hx hb hr hlocks () trivial hP hD hK hS [0, 1, 2, 3, 4, 5] (by decide) rfl d_M_tryOne_48
    · refine lv_aload_n hx hb d_M_tryOne_32 rfl (lv_at hl 0 rfl) ?_
      refine lv_lconst (v := 1) hx hb d_M_tryOne_33 (by decide) ?_
      refine k_callv (wr := []) (va_runV (As := [.long 1]) (rest := []) ⟨hx, hb, hml, hown, hts⟩ (k_M_startTrial l dC dI cJ cI cZ _ h aL aF aS aT aB ml n mf ms u 1) (k_cw (y := y_M_startTrial) (own := R_M) hts wd_128 wd_26 wd_124 wd_122 wd_123 hd_M_startTrial ⟨Nat.le_of_ble_eq_true rfl, Nat.le_of_ble_eq_true rfl⟩) (k_preV (ci := 1) (q0 := 0) hP hD hK [0, 1, 2, 3, 4, 5] rfl (by decide) rfl rfl) rfl rfl hl.1 rfl (lv_room (Nat.le_of_ble_eq_true rfl)) d_M_tryOne_34 ⟨Nat.le_of_ble_eq_true rfl, Nat.le_of_ble_eq_true rfl⟩) hP hD hS hA [0, 1, 2, 3, 4, 5] [] rfl rfl (by decide) (by decide) (fun uu H locs hpo hP hD hS => ?_)
      have hP : va_P (dC, dI) vwCl [(h, .inr (1, [.ref aL, .int (nI n), .ref aF, .ref aS, .ref aT, .long ((stF u 1).2.1), .ref aB, .long ((stF u 1).2.2.2.1), .int (zI ((stF u 1).2.2.2.2))])), (aL, .inl (cI, 4, .inl ml)), (aF, .inl (cJ, 5, .inr (.inl mf))), (aS, .inl (cJ, 5, .inr (.inl ms))), (aT, .inl (cJ, 4, .inr (.inl ((stF u 1).1)))), (aB, .inl (cJ, 4, .inr (.inl ((stF u 1).2.2.1))))] H := hP
      have hD : va_D A [(h, .inr (1, [.ref aL, .int (nI n), .ref aF, .ref aS, .ref aT, .long ((stF u 1).2.1), .ref aB, .long ((stF u 1).2.2.2.1), .int (zI ((stF u 1).2.2.2.2))])), (aL, .inl (cI, 4, .inl ml)), (aF, .inl (cJ, 5, .inr (.inl mf))), (aS, .inl (cJ, 5, .inr (.inl ms))), (aT, .inl (cJ, 4, .inr (.inl ((stF u 1).1)))), (aB, .inl (cJ, 4, .inr (.inl ((stF u 1).2.2.1))))] := hD
      refine lv_aload_n hx hb d_M_tryOne_37 rfl (lv_at hl 0 rfl) ?_
      refine va_get (D := (dC, dI)) (ci := 1) (v := .ref aT) (C := R_M) (T := T_M) (N := 9) hx hb hts iT_M hown hK hP 0 rfl rfl 4 (by decide) (hts _ wd_40) (fun _ h9 => h9) rfl d_M_tryOne_38 ?_
      refine lv_iload_n hx hb d_M_tryOne_41 rfl (lv_at hl 1 rfl) ?_
      refine lv_lconst (v := 1) hx hb d_M_tryOne_42 (by decide) ?_
      refine k_last (j := i) hx hb hK hP hD hS 4 0 rfl rfl (by omega) (by decide) d_M_tryOne_43 (fun H locs hP hD hS => ?_)
      have hP : va_P (dC, dI) vwCl [(h, .inr (1, [.ref aL, .int (nI n), .ref aF, .ref aS, .ref aT, .long ((stF u 1).2.1), .ref aB, .long ((stF u 1).2.2.2.1), .int (zI ((stF u 1).2.2.2.2))])), (aL, .inl (cI, 4, .inl ml)), (aF, .inl (cJ, 5, .inr (.inl mf))), (aS, .inl (cJ, 5, .inr (.inl ms))), (aT, .inl (cJ, 4, .inr (.inl (vp_updL ((stF u 1).1) i 1)))), (aB, .inl (cJ, 4, .inr (.inl ((stF u 1).2.2.1))))] H := hP
      have hD : va_D A [(h, .inr (1, [.ref aL, .int (nI n), .ref aF, .ref aS, .ref aT, .long ((stF u 1).2.1), .ref aB, .long ((stF u 1).2.2.2.1), .int (zI ((stF u 1).2.2.2.2))])), (aL, .inl (cI, 4, .inl ml)), (aF, .inl (cJ, 5, .inr (.inl mf))), (aS, .inl (cJ, 5, .inr (.inl ms))), (aT, .inl (cJ, 4, .inr (.inl (vp_updL ((stF u 1).1) i 1)))), (aB, .inl (cJ, 4, .inr (.inl ((stF u 1).2.2.1))))] := hD
      have hP : va_P (dC, dI) vwCl [(h, .inr (1, [.ref aL, .int (nI n), .ref aF, .ref aS, .ref aT, .long ((st1 (stF u 1) i 1).2.1), .ref aB, .long ((st1 (stF u 1) i 1).2.2.2.1), .int (zI ((st1 (stF u 1) i 1).2.2.2.2))])), (aL, .inl (cI, 4, .inl ml)), (aF, .inl (cJ, 5, .inr (.inl mf))), (aS, .inl (cJ, 5, .inr (.inl ms))), (aT, .inl (cJ, 4, .inr (.inl ((st1 (stF u 1) i 1).1)))), (aB, .inl (cJ, 4, .inr (.inl ((st1 (stF u 1) i 1).2.2.1))))] H := hP
      have hD : va_D A [(h, .inr (1, [.ref aL, .int (nI n), .ref aF, .ref aS, .ref aT, .long ((st1 (stF u 1) i 1).2.1), .ref aB, .long ((st1 (stF u 1) i 1).2.2.2.1), .int (zI ((st1 (stF u 1) i 1).2.2.2.2))])), (aL, .inl (cI, 4, .inl ml)), (aF, .inl (cJ, 5, .inr (.inl mf))), (aS, .inl (cJ, 5, .inr (.inl ms))), (aT, .inl (cJ, 4, .inr (.inl ((st1 (stF u 1) i 1).1)))), (aB, .inl (cJ, 4, .inr (.inl ((st1 (stF u 1) i 1).2.2.1))))] := hD
      refine lv_aload_n hx hb d_M_tryOne_44 rfl (lv_at hl 0 rfl) ?_
      refine k_callv (wr := []) (va_runV (As := []) (rest := []) ⟨hx, hb, hml, hown, hts⟩ (k_M_keepIfBetter l dC dI cJ cI cZ _ h aL aF aS aT aB ml n mf ms (st1 (stF u 1) i 1) (by omega)) (k_cw (y := y_M_keepIfBetter) (own := R_M) hts wd_129 wd_26 wd_127 wd_125 wd_126 hd_M_keepIfBetter ⟨Nat.le_of_ble_eq_true rfl, Nat.le_of_ble_eq_true rfl⟩) (k_preV (ci := 1) (q0 := 0) hP hD hK [0, 1, 2, 3, 4, 5] rfl (by decide) rfl rfl) rfl rfl hl.1 rfl (lv_room (Nat.le_of_ble_eq_true rfl)) d_M_tryOne_45 ⟨Nat.le_of_ble_eq_true rfl, Nat.le_of_ble_eq_true rfl⟩) hP hD hS hA [0, 1, 2, 3, 4, 5] [] rfl rfl (by decide) (by decide) (fun uu H locs hpo hP hD hS => ?_)
      have hP : va_P (dC, dI) vwCl [(h, .inr (1, [.ref aL, .int (nI n), .ref aF, .ref aS, .ref aT, .long ((keepF n (st1 (stF u 1) i 1)).2.1), .ref aB, .long ((keepF n (st1 (stF u 1) i 1)).2.2.2.1), .int (zI ((keepF n (st1 (stF u 1) i 1)).2.2.2.2))])), (aL, .inl (cI, 4, .inl ml)), (aF, .inl (cJ, 5, .inr (.inl mf))), (aS, .inl (cJ, 5, .inr (.inl ms))), (aT, .inl (cJ, 4, .inr (.inl ((keepF n (st1 (stF u 1) i 1)).1)))), (aB, .inl (cJ, 4, .inr (.inl ((keepF n (st1 (stF u 1) i 1)).2.2.1))))] H := hP
      have hD : va_D A [(h, .inr (1, [.ref aL, .int (nI n), .ref aF, .ref aS, .ref aT, .long ((keepF n (st1 (stF u 1) i 1)).2.1), .ref aB, .long ((keepF n (st1 (stF u 1) i 1)).2.2.2.1), .int (zI ((keepF n (st1 (stF u 1) i 1)).2.2.2.2))])), (aL, .inl (cI, 4, .inl ml)), (aF, .inl (cJ, 5, .inr (.inl mf))), (aS, .inl (cJ, 5, .inr (.inl ms))), (aT, .inl (cJ, 4, .inr (.inl ((keepF n (st1 (stF u 1) i 1)).1)))), (aB, .inl (cJ, 4, .inr (.inl ((keepF n (st1 (stF u 1) i 1)).2.2.1))))] := hD
      have hq9 : t1F mf ms n i u = keepF n (st1 (stF u 1) i 1) := by unfold t1F; rw [if_pos ⟨c_12, c_28⟩]
      have hP : va_P (dC, dI) vwCl [(h, .inr (1, [.ref aL, .int (nI n), .ref aF, .ref aS, .ref aT, .long ((t1F mf ms n i u).2.1), .ref aB, .long ((t1F mf ms n i u).2.2.2.1), .int (zI ((t1F mf ms n i u).2.2.2.2))])), (aL, .inl (cI, 4, .inl ml)), (aF, .inl (cJ, 5, .inr (.inl mf))), (aS, .inl (cJ, 5, .inr (.inl ms))), (aT, .inl (cJ, 4, .inr (.inl ((t1F mf ms n i u).1)))), (aB, .inl (cJ, 4, .inr (.inl ((t1F mf ms n i u).2.2.1))))] H := by rw [hq9]; exact hP
      have hD : va_D A [(h, .inr (1, [.ref aL, .int (nI n), .ref aF, .ref aS, .ref aT, .long ((t1F mf ms n i u).2.1), .ref aB, .long ((t1F mf ms n i u).2.2.2.1), .int (zI ((t1F mf ms n i u).2.2.2.2))])), (aL, .inl (cI, 4, .inl ml)), (aF, .inl (cJ, 5, .inr (.inl mf))), (aS, .inl (cJ, 5, .inr (.inl ms))), (aT, .inl (cJ, 4, .inr (.inl ((t1F mf ms n i u).1)))), (aB, .inl (cJ, 4, .inr (.inl ((t1F mf ms n i u).2.2.1))))] := by rw [hq9]; exact hD
      exact k_vret hx hb hr hlocks () trivial hP hD hK hS [0, 1, 2, 3, 4, 5] (by decide) rfl d_M_tryOne_48
/-- M_tryTwo -/
abbrev q_M_tryTwo (dC : Nat → ClassId) (dI : Nat → Nat → Nat) (cJ cI cZ : ClassId) (h : Nat) (aL : Nat) (aF : Nat) (aS : Nat) (aT : Nat) (aB : Nat) (ml : Nat → Int32) (n : Nat) (mf : Nat → Int64) (ms : Nat → Int64) (u : MixS) (i : Nat) (j : Nat) (A : Nat → Prop) : Array Value → State → Outcome → State → Prop := va_Qv (fun (_ : Unit) => True) (kB (dC, dI) vwCl [(cJ, .long), (cI, .int), (cZ, .boolean)] A (fun (_ : Unit) => [(h, .inr (1, [.ref aL, .int (nI n), .ref aF, .ref aS, .ref aT, .long ((t2F mf ms n i j u).2.1), .ref aB, .long ((t2F mf ms n i j u).2.2.2.1), .int (zI ((t2F mf ms n i j u).2.2.2.2))])), (aL, .inl (cI, 4, .inl ml)), (aF, .inl (cJ, 5, .inr (.inl mf))), (aS, .inl (cJ, 5, .inr (.inl ms))), (aT, .inl (cJ, 4, .inr (.inl ((t2F mf ms n i j u).1)))), (aB, .inl (cJ, 4, .inr (.inl ((t2F mf ms n i j u).2.2.1))))])) A
set_option maxHeartbeats 4000000 in
set_option maxRecDepth 100000 in
theorem k_M_tryTwo (l : Launch) (dC : Nat → ClassId) (dI : Nat → Nat → Nat) (cJ cI cZ : ClassId) (sz : Nat) (h : Nat) (aL : Nat) (aF : Nat) (aS : Nat) (aT : Nat) (aB : Nat) (ml : Nat → Int32) (n : Nat) (mf : Nat → Int64) (ms : Nat → Int64) (u : MixS) (i : Nat) (j : Nat) (hn : n ≤ 4) (hi : i < 4) (hj : j < 4) : Met l y_M_tryTwo w_M_tryTwo { frames := 2, cells := 0, slots := 0, locals := 46 } (kPc (dC, dI) vwCl [(cJ, .long), (cI, .int), (cZ, .boolean)] [(h, .inr (1, [.ref aL, .int (nI n), .ref aF, .ref aS, .ref aT, .long u.2.1, .ref aB, .long u.2.2.2.1, .int (zI u.2.2.2.2)])), (aL, .inl (cI, 4, .inl ml)), (aF, .inl (cJ, 5, .inr (.inl mf))), (aS, .inl (cJ, 5, .inr (.inl ms))), (aT, .inl (cJ, 4, .inr (.inl u.1))), (aB, .inl (cJ, 4, .inr (.inl u.2.2.1)))] sz [.ref h, .int (nI i), .int (nI j)]) (q_M_tryTwo dC dI cJ cI cZ h aL aF aS aT aB ml n mf ms u i j (va_A [(h, .inr (1, [.ref aL, .int (nI n), .ref aF, .ref aS, .ref aT, .long u.2.1, .ref aB, .long u.2.2.2.1, .int (zI u.2.2.2.2)])), (aL, .inl (cI, 4, .inl ml)), (aF, .inl (cJ, 5, .inr (.inl mf))), (aS, .inl (cJ, 5, .inr (.inl ms))), (aT, .inl (cJ, 4, .inr (.inl u.1))), (aB, .inl (cJ, 4, .inr (.inl u.2.2.1)))] sz)) 0 0 (va_A [(h, .inr (1, [.ref aL, .int (nI n), .ref aF, .ref aS, .ref aT, .long u.2.1, .ref aB, .long u.2.2.2.1, .int (zI u.2.2.2.2)])), (aL, .inl (cI, 4, .inl ml)), (aF, .inl (cJ, 5, .inr (.inl mf))), (aS, .inl (cJ, 5, .inr (.inl ms))), (aT, .inl (cJ, 4, .inr (.inl u.1))), (aB, .inl (cJ, 4, .inr (.inl u.2.2.1)))] sz) := by
  refine k_met (q_M_tryTwo dC dI cJ cI cZ h aL aF aS aT aB ml n mf ms u i j) (by decide +kernel) rfl (Nat.le_of_ble_eq_true rfl) ?_
  intro p e s m below meth c A hx hb hr hml hown hts hlocks hin hA H hP hK hD hS ls hl
  have hl : lv_has ls 5 [(0, .ref h), (1, .int (nI i)), (2, .int (nI j))] := hl
  have hown : s.vm.findClass R_M = some m.cls := hown
  have hts : ∀ wW ∈ kT, wW.before [.ref h, .int (nI i), .int (nI j)].toArray s = true := fun wW hW => hts wW (List.mem_cons_of_mem _ hW)
  refine lv_aload_n hx hb d_M_tryTwo_0 rfl (lv_at hl 0 rfl) ?_
  refine lv_iload_n hx hb d_M_tryTwo_1 rfl (lv_at hl 1 rfl) ?_
  refine lv_iload_n hx hb d_M_tryTwo_2 rfl (lv_at hl 2 rfl) ?_
  refine lv_iload_n hx hb d_M_tryTwo_3 rfl (lv_at hl 2 rfl) ?_
  refine k_calll (wr := []) (va_runV (As := [.int (nI i), .int (nI j), .int (nI j)]) (rest := []) ⟨hx, hb, hml, hown, hts⟩ (k_M_product l dC dI cJ cI cZ _ h aL aF aS aT aB ml n mf ms u i j j (by omega) (by omega) (by omega)) (k_cw (y := y_M_product) (own := R_M) hts wd_145 wd_26 wd_141 wd_139 wd_140 hd_M_product ⟨Nat.le_of_ble_eq_true rfl, Nat.le_of_ble_eq_true rfl⟩) (k_preV (ci := 1) (q0 := 0) hP hD hK [0, 1, 2, 3, 4, 5] rfl (by decide) rfl rfl) rfl rfl hl.1 rfl (lv_room (Nat.le_of_ble_eq_true rfl)) d_M_tryTwo_4 ⟨Nat.le_of_ble_eq_true rfl, Nat.le_of_ble_eq_true rfl⟩) hP hD hS hA [0, 1, 2, 3, 4, 5] [] rfl rfl (by decide) (by decide) (fun r_4 uu H locs hpo hP hD hS => ?_)
  have hpo : r_4 = prodF mf ms i j j := hpo
  subst hpo
  have hP : va_P (dC, dI) vwCl [(h, .inr (1, [.ref aL, .int (nI n), .ref aF, .ref aS, .ref aT, .long u.2.1, .ref aB, .long u.2.2.2.1, .int (zI u.2.2.2.2)])), (aL, .inl (cI, 4, .inl ml)), (aF, .inl (cJ, 5, .inr (.inl mf))), (aS, .inl (cJ, 5, .inr (.inl ms))), (aT, .inl (cJ, 4, .inr (.inl u.1))), (aB, .inl (cJ, 4, .inr (.inl u.2.2.1)))] H := hP
  have hD : va_D A [(h, .inr (1, [.ref aL, .int (nI n), .ref aF, .ref aS, .ref aT, .long u.2.1, .ref aB, .long u.2.2.2.1, .int (zI u.2.2.2.2)])), (aL, .inl (cI, 4, .inl ml)), (aF, .inl (cJ, 5, .inr (.inl mf))), (aS, .inl (cJ, 5, .inr (.inl ms))), (aT, .inl (cJ, 4, .inr (.inl u.1))), (aB, .inl (cJ, 4, .inr (.inl u.2.2.1)))] := hD
  refine lv_lstore_n (lv' := [(3, .long (prodF mf ms i j j)), (0, .ref h), (1, .int (nI i)), (2, .int (nI j))]) hx hb d_M_tryTwo_7 rfl hl (by decide) rfl (fun ls hl => ?_)
  refine lv_lload_n hx hb d_M_tryTwo_8 rfl (lv_at hl 0 rfl) ?_
  refine lv_lconst (v := 0) hx hb d_M_tryTwo_9 (by decide) ?_
  refine k_jeq (tgt := 26) hx hb d_M_tryTwo_10 d_M_tryTwo_11 (by decide) (fun c_10 => ?_) (fun c_10 => ?_)
  · have hq9 : t2F mf ms n i j u = u := by first | (unfold t2F; rw [if_pos (Or.inl c_10)]; done) | (unfold t2F; rw [if_pos (Or.inr c_22)]; done)
    have hP : va_P (dC, dI) vwCl [(h, .inr (1, [.ref aL, .int (nI n), .ref aF, .ref aS, .ref aT, .long ((t2F mf ms n i j u).2.1), .ref aB, .long ((t2F mf ms n i j u).2.2.2.1), .int (zI ((t2F mf ms n i j u).2.2.2.2))])), (aL, .inl (cI, 4, .inl ml)), (aF, .inl (cJ, 5, .inr (.inl mf))), (aS, .inl (cJ, 5, .inr (.inl ms))), (aT, .inl (cJ, 4, .inr (.inl ((t2F mf ms n i j u).1)))), (aB, .inl (cJ, 4, .inr (.inl ((t2F mf ms n i j u).2.2.1))))] H := by rw [hq9]; exact hP
    have hD : va_D A [(h, .inr (1, [.ref aL, .int (nI n), .ref aF, .ref aS, .ref aT, .long ((t2F mf ms n i j u).2.1), .ref aB, .long ((t2F mf ms n i j u).2.2.2.1), .int (zI ((t2F mf ms n i j u).2.2.2.2))])), (aL, .inl (cI, 4, .inl ml)), (aF, .inl (cJ, 5, .inr (.inl mf))), (aS, .inl (cJ, 5, .inr (.inl ms))), (aT, .inl (cJ, 4, .inr (.inl ((t2F mf ms n i j u).1)))), (aB, .inl (cJ, 4, .inr (.inl ((t2F mf ms n i j u).2.2.1))))] := by rw [hq9]; exact hD
    exact k_vret hx hb hr hlocks () trivial hP hD hK hS [0, 1, 2, 3, 4, 5] (by decide) rfl d_M_tryTwo_26
  · refine lv_aload_n hx hb d_M_tryTwo_14 rfl (lv_at hl 1 rfl) ?_
    refine lv_iload_n hx hb d_M_tryTwo_15 rfl (lv_at hl 2 rfl) ?_
    refine lv_iload_n hx hb d_M_tryTwo_16 rfl (lv_at hl 3 rfl) ?_
    refine lv_iconst (v := nI 4) hx hb d_M_tryTwo_17 (by decide) ?_
    refine k_calll (wr := []) (va_runV (As := [.int (nI i), .int (nI j), .int (nI 4)]) (rest := []) ⟨hx, hb, hml, hown, hts⟩ (k_M_doubleArea l dC dI cJ cI cZ _ h aL aF aS aT aB ml n mf ms u i j 4 (by omega) (by omega) (by omega)) (k_cw (y := y_M_doubleArea) (own := R_M) hts wd_146 wd_26 wd_144 wd_142 wd_143 hd_M_doubleArea ⟨Nat.le_of_ble_eq_true rfl, Nat.le_of_ble_eq_true rfl⟩) (k_preV (ci := 1) (q0 := 0) hP hD hK [0, 1, 2, 3, 4, 5] rfl (by decide) rfl rfl) rfl rfl hl.1 rfl (lv_room (Nat.le_of_ble_eq_true rfl)) d_M_tryTwo_18 ⟨Nat.le_of_ble_eq_true rfl, Nat.le_of_ble_eq_true rfl⟩) hP hD hS hA [0, 1, 2, 3, 4, 5] [] rfl rfl (by decide) (by decide) (fun r_18 uu H locs hpo hP hD hS => ?_)
    have hpo : r_18 = areaF mf ms i j 4 := hpo
    subst hpo
    have hP : va_P (dC, dI) vwCl [(h, .inr (1, [.ref aL, .int (nI n), .ref aF, .ref aS, .ref aT, .long u.2.1, .ref aB, .long u.2.2.2.1, .int (zI u.2.2.2.2)])), (aL, .inl (cI, 4, .inl ml)), (aF, .inl (cJ, 5, .inr (.inl mf))), (aS, .inl (cJ, 5, .inr (.inl ms))), (aT, .inl (cJ, 4, .inr (.inl u.1))), (aB, .inl (cJ, 4, .inr (.inl u.2.2.1)))] H := hP
    have hD : va_D A [(h, .inr (1, [.ref aL, .int (nI n), .ref aF, .ref aS, .ref aT, .long u.2.1, .ref aB, .long u.2.2.2.1, .int (zI u.2.2.2.2)])), (aL, .inl (cI, 4, .inl ml)), (aF, .inl (cJ, 5, .inr (.inl mf))), (aS, .inl (cJ, 5, .inr (.inl ms))), (aT, .inl (cJ, 4, .inr (.inl u.1))), (aB, .inl (cJ, 4, .inr (.inl u.2.2.1)))] := hD
    refine lv_lconst (v := 0) hx hb d_M_tryTwo_21 (by decide) ?_
    refine k_jeq (tgt := 27) hx hb d_M_tryTwo_22 d_M_tryTwo_23 (by decide) (fun c_22 => ?_) (fun c_22 => ?_)
    · refine lv_aload_n hx hb d_M_tryTwo_27 rfl (lv_at hl 1 rfl) ?_
      refine lv_lload_n hx hb d_M_tryTwo_28 rfl (lv_at hl 0 rfl) ?_
      refine k_callv (wr := []) (va_runV (As := [.long (prodF mf ms i j j)]) (rest := []) ⟨hx, hb, hml, hown, hts⟩ (k_M_startTrial l dC dI cJ cI cZ _ h aL aF aS aT aB ml n mf ms u (prodF mf ms i j j)) (k_cw (y := y_M_startTrial) (own := R_M) hts wd_128 wd_26 wd_124 wd_122 wd_123 hd_M_startTrial ⟨Nat.le_of_ble_eq_true rfl, Nat.le_of_ble_eq_true rfl⟩) (k_preV (ci := 1) (q0 := 0) hP hD hK [0, 1, 2, 3, 4, 5] rfl (by decide) rfl rfl) rfl rfl hl.1 rfl (lv_room (Nat.le_of_ble_eq_true rfl)) d_M_tryTwo_29 ⟨Nat.le_of_ble_eq_true rfl, Nat.le_of_ble_eq_true rfl⟩) hP hD hS hA [0, 1, 2, 3, 4, 5] [] rfl rfl (by decide) (by decide) (fun uu H locs hpo hP hD hS => ?_)
      have hP : va_P (dC, dI) vwCl [(h, .inr (1, [.ref aL, .int (nI n), .ref aF, .ref aS, .ref aT, .long ((stF u (prodF mf ms i j j)).2.1), .ref aB, .long ((stF u (prodF mf ms i j j)).2.2.2.1), .int (zI ((stF u (prodF mf ms i j j)).2.2.2.2))])), (aL, .inl (cI, 4, .inl ml)), (aF, .inl (cJ, 5, .inr (.inl mf))), (aS, .inl (cJ, 5, .inr (.inl ms))), (aT, .inl (cJ, 4, .inr (.inl ((stF u (prodF mf ms i j j)).1)))), (aB, .inl (cJ, 4, .inr (.inl ((stF u (prodF mf ms i j j)).2.2.1))))] H := hP
      have hD : va_D A [(h, .inr (1, [.ref aL, .int (nI n), .ref aF, .ref aS, .ref aT, .long ((stF u (prodF mf ms i j j)).2.1), .ref aB, .long ((stF u (prodF mf ms i j j)).2.2.2.1), .int (zI ((stF u (prodF mf ms i j j)).2.2.2.2))])), (aL, .inl (cI, 4, .inl ml)), (aF, .inl (cJ, 5, .inr (.inl mf))), (aS, .inl (cJ, 5, .inr (.inl ms))), (aT, .inl (cJ, 4, .inr (.inl ((stF u (prodF mf ms i j j)).1)))), (aB, .inl (cJ, 4, .inr (.inl ((stF u (prodF mf ms i j j)).2.2.1))))] := hD
      refine lv_aload_n hx hb d_M_tryTwo_32 rfl (lv_at hl 1 rfl) ?_
      refine va_get (D := (dC, dI)) (ci := 1) (v := .ref aT) (C := R_M) (T := T_M) (N := 9) hx hb hts iT_M hown hK hP 0 rfl rfl 4 (by decide) (hts _ wd_40) (fun _ h9 => h9) rfl d_M_tryTwo_33 ?_
      refine lv_iload_n hx hb d_M_tryTwo_36 rfl (lv_at hl 3 rfl) ?_
      refine lv_aload_n hx hb d_M_tryTwo_37 rfl (lv_at hl 1 rfl) ?_
      refine lv_iload_n hx hb d_M_tryTwo_38 rfl (lv_at hl 2 rfl) ?_
      refine lv_iload_n hx hb d_M_tryTwo_39 rfl (lv_at hl 3 rfl) ?_
      refine lv_iconst (v := nI 4) hx hb d_M_tryTwo_40 (by decide) ?_
      refine k_calll (wr := []) (va_runV (As := [.int (nI i), .int (nI j), .int (nI 4)]) (rest := [.int (nI j), .ref aT]) ⟨hx, hb, hml, hown, hts⟩ (k_M_product l dC dI cJ cI cZ _ h aL aF aS aT aB ml n mf ms (stF u (prodF mf ms i j j)) i j 4 (by omega) (by omega) (by omega)) (k_cw (y := y_M_product) (own := R_M) hts wd_145 wd_26 wd_141 wd_139 wd_140 hd_M_product ⟨Nat.le_of_ble_eq_true rfl, Nat.le_of_ble_eq_true rfl⟩) (k_preV (ci := 1) (q0 := 0) hP hD hK [0, 1, 2, 3, 4, 5] rfl (by decide) rfl rfl) rfl rfl hl.1 rfl (lv_room (Nat.le_of_ble_eq_true rfl)) d_M_tryTwo_41 ⟨Nat.le_of_ble_eq_true rfl, Nat.le_of_ble_eq_true rfl⟩) hP hD hS hA [0, 1, 2, 3, 4, 5] [] rfl rfl (by decide) (by decide) (fun r_41 uu H locs hpo hP hD hS => ?_)
      have hpo : r_41 = prodF mf ms i j 4 := hpo
      subst hpo
      have hP : va_P (dC, dI) vwCl [(h, .inr (1, [.ref aL, .int (nI n), .ref aF, .ref aS, .ref aT, .long ((stF u (prodF mf ms i j j)).2.1), .ref aB, .long ((stF u (prodF mf ms i j j)).2.2.2.1), .int (zI (stF u (prodF mf ms i j j)).2.2.2.2)])), (aL, .inl (cI, 4, .inl ml)), (aF, .inl (cJ, 5, .inr (.inl mf))), (aS, .inl (cJ, 5, .inr (.inl ms))), (aT, .inl (cJ, 4, .inr (.inl ((stF u (prodF mf ms i j j)).1)))), (aB, .inl (cJ, 4, .inr (.inl ((stF u (prodF mf ms i j j)).2.2.1))))] H := hP
      have hD : va_D A [(h, .inr (1, [.ref aL, .int (nI n), .ref aF, .ref aS, .ref aT, .long ((stF u (prodF mf ms i j j)).2.1), .ref aB, .long ((stF u (prodF mf ms i j j)).2.2.2.1), .int (zI (stF u (prodF mf ms i j j)).2.2.2.2)])), (aL, .inl (cI, 4, .inl ml)), (aF, .inl (cJ, 5, .inr (.inl mf))), (aS, .inl (cJ, 5, .inr (.inl ms))), (aT, .inl (cJ, 4, .inr (.inl ((stF u (prodF mf ms i j j)).1)))), (aB, .inl (cJ, 4, .inr (.inl ((stF u (prodF mf ms i j j)).2.2.1))))] := hD
      refine k_last (j := j) hx hb hK hP hD hS 4 0 rfl rfl (by omega) (by decide) d_M_tryTwo_44 (fun H locs hP hD hS => ?_)
      have hP : va_P (dC, dI) vwCl [(h, .inr (1, [.ref aL, .int (nI n), .ref aF, .ref aS, .ref aT, .long ((stF u (prodF mf ms i j j)).2.1), .ref aB, .long ((stF u (prodF mf ms i j j)).2.2.2.1), .int (zI (stF u (prodF mf ms i j j)).2.2.2.2)])), (aL, .inl (cI, 4, .inl ml)), (aF, .inl (cJ, 5, .inr (.inl mf))), (aS, .inl (cJ, 5, .inr (.inl ms))), (aT, .inl (cJ, 4, .inr (.inl (vp_updL ((stF u (prodF mf ms i j j)).1) j (prodF mf ms i j 4))))), (aB, .inl (cJ, 4, .inr (.inl ((stF u (prodF mf ms i j j)).2.2.1))))] H := hP
      have hD : va_D A [(h, .inr (1, [.ref aL, .int (nI n), .ref aF, .ref aS, .ref aT, .long ((stF u (prodF mf ms i j j)).2.1), .ref aB, .long ((stF u (prodF mf ms i j j)).2.2.2.1), .int (zI (stF u (prodF mf ms i j j)).2.2.2.2)])), (aL, .inl (cI, 4, .inl ml)), (aF, .inl (cJ, 5, .inr (.inl mf))), (aS, .inl (cJ, 5, .inr (.inl ms))), (aT, .inl (cJ, 4, .inr (.inl (vp_updL ((stF u (prodF mf ms i j j)).1) j (prodF mf ms i j 4))))), (aB, .inl (cJ, 4, .inr (.inl ((stF u (prodF mf ms i j j)).2.2.1))))] := hD
      have hP : va_P (dC, dI) vwCl [(h, .inr (1, [.ref aL, .int (nI n), .ref aF, .ref aS, .ref aT, .long ((st1 (stF u (prodF mf ms i j j)) j (prodF mf ms i j 4)).2.1), .ref aB, .long ((st1 (stF u (prodF mf ms i j j)) j (prodF mf ms i j 4)).2.2.2.1), .int (zI ((st1 (stF u (prodF mf ms i j j)) j (prodF mf ms i j 4)).2.2.2.2))])), (aL, .inl (cI, 4, .inl ml)), (aF, .inl (cJ, 5, .inr (.inl mf))), (aS, .inl (cJ, 5, .inr (.inl ms))), (aT, .inl (cJ, 4, .inr (.inl ((st1 (stF u (prodF mf ms i j j)) j (prodF mf ms i j 4)).1)))), (aB, .inl (cJ, 4, .inr (.inl ((st1 (stF u (prodF mf ms i j j)) j (prodF mf ms i j 4)).2.2.1))))] H := hP
      have hD : va_D A [(h, .inr (1, [.ref aL, .int (nI n), .ref aF, .ref aS, .ref aT, .long ((st1 (stF u (prodF mf ms i j j)) j (prodF mf ms i j 4)).2.1), .ref aB, .long ((st1 (stF u (prodF mf ms i j j)) j (prodF mf ms i j 4)).2.2.2.1), .int (zI ((st1 (stF u (prodF mf ms i j j)) j (prodF mf ms i j 4)).2.2.2.2))])), (aL, .inl (cI, 4, .inl ml)), (aF, .inl (cJ, 5, .inr (.inl mf))), (aS, .inl (cJ, 5, .inr (.inl ms))), (aT, .inl (cJ, 4, .inr (.inl ((st1 (stF u (prodF mf ms i j j)) j (prodF mf ms i j 4)).1)))), (aB, .inl (cJ, 4, .inr (.inl ((st1 (stF u (prodF mf ms i j j)) j (prodF mf ms i j 4)).2.2.1))))] := hD
      refine lv_aload_n hx hb d_M_tryTwo_45 rfl (lv_at hl 1 rfl) ?_
      refine va_get (D := (dC, dI)) (ci := 1) (v := .ref aT) (C := R_M) (T := T_M) (N := 9) hx hb hts iT_M hown hK hP 0 rfl rfl 4 (by decide) (hts _ wd_40) (fun _ h9 => h9) rfl d_M_tryTwo_46 ?_
      refine lv_iload_n hx hb d_M_tryTwo_49 rfl (lv_at hl 2 rfl) ?_
      refine lv_lload_n hx hb d_M_tryTwo_50 rfl (lv_at hl 0 rfl) ?_
      refine lv_aload_n hx hb d_M_tryTwo_51 rfl (lv_at hl 1 rfl) ?_
      refine va_get (D := (dC, dI)) (ci := 1) (v := .ref aT) (C := R_M) (T := T_M) (N := 9) hx hb hts iT_M hown hK hP 0 rfl rfl 4 (by decide) (hts _ wd_40) (fun _ h9 => h9) rfl d_M_tryTwo_52 ?_
      refine lv_iload_n hx hb d_M_tryTwo_55 rfl (lv_at hl 3 rfl) ?_
      refine k_lald (j := j) hx hb hK hP 4 0 rfl rfl (by omega) (by decide) d_M_tryTwo_56 ?_
      refine lv_lsub hx hb d_M_tryTwo_57 ?_
      refine k_last (j := i) hx hb hK hP hD hS 4 0 rfl rfl (by omega) (by decide) d_M_tryTwo_58 (fun H locs hP hD hS => ?_)
      have hP : va_P (dC, dI) vwCl [(h, .inr (1, [.ref aL, .int (nI n), .ref aF, .ref aS, .ref aT, .long ((st1 (stF u (prodF mf ms i j j)) j (prodF mf ms i j 4)).2.1), .ref aB, .long ((st1 (stF u (prodF mf ms i j j)) j (prodF mf ms i j 4)).2.2.2.1), .int (zI ((st1 (stF u (prodF mf ms i j j)) j (prodF mf ms i j 4)).2.2.2.2))])), (aL, .inl (cI, 4, .inl ml)), (aF, .inl (cJ, 5, .inr (.inl mf))), (aS, .inl (cJ, 5, .inr (.inl ms))), (aT, .inl (cJ, 4, .inr (.inl (vp_updL ((st1 (stF u (prodF mf ms i j j)) j (prodF mf ms i j 4)).1) i ((prodF mf ms i j j) - (((st1 (stF u (prodF mf ms i j j)) j (prodF mf ms i j 4)).1) j)))))), (aB, .inl (cJ, 4, .inr (.inl ((st1 (stF u (prodF mf ms i j j)) j (prodF mf ms i j 4)).2.2.1))))] H := hP
      have hD : va_D A [(h, .inr (1, [.ref aL, .int (nI n), .ref aF, .ref aS, .ref aT, .long ((st1 (stF u (prodF mf ms i j j)) j (prodF mf ms i j 4)).2.1), .ref aB, .long ((st1 (stF u (prodF mf ms i j j)) j (prodF mf ms i j 4)).2.2.2.1), .int (zI ((st1 (stF u (prodF mf ms i j j)) j (prodF mf ms i j 4)).2.2.2.2))])), (aL, .inl (cI, 4, .inl ml)), (aF, .inl (cJ, 5, .inr (.inl mf))), (aS, .inl (cJ, 5, .inr (.inl ms))), (aT, .inl (cJ, 4, .inr (.inl (vp_updL ((st1 (stF u (prodF mf ms i j j)) j (prodF mf ms i j 4)).1) i ((prodF mf ms i j j) - (((st1 (stF u (prodF mf ms i j j)) j (prodF mf ms i j 4)).1) j)))))), (aB, .inl (cJ, 4, .inr (.inl ((st1 (stF u (prodF mf ms i j j)) j (prodF mf ms i j 4)).2.2.1))))] := hD
      have hP : va_P (dC, dI) vwCl [(h, .inr (1, [.ref aL, .int (nI n), .ref aF, .ref aS, .ref aT, .long ((st1 (st1 (stF u (prodF mf ms i j j)) j (prodF mf ms i j 4)) i (prodF mf ms i j j - (st1 (stF u (prodF mf ms i j j)) j (prodF mf ms i j 4)).1 j)).2.1), .ref aB, .long ((st1 (st1 (stF u (prodF mf ms i j j)) j (prodF mf ms i j 4)) i (prodF mf ms i j j - (st1 (stF u (prodF mf ms i j j)) j (prodF mf ms i j 4)).1 j)).2.2.2.1), .int (zI ((st1 (st1 (stF u (prodF mf ms i j j)) j (prodF mf ms i j 4)) i (prodF mf ms i j j - (st1 (stF u (prodF mf ms i j j)) j (prodF mf ms i j 4)).1 j)).2.2.2.2))])), (aL, .inl (cI, 4, .inl ml)), (aF, .inl (cJ, 5, .inr (.inl mf))), (aS, .inl (cJ, 5, .inr (.inl ms))), (aT, .inl (cJ, 4, .inr (.inl ((st1 (st1 (stF u (prodF mf ms i j j)) j (prodF mf ms i j 4)) i (prodF mf ms i j j - (st1 (stF u (prodF mf ms i j j)) j (prodF mf ms i j 4)).1 j)).1)))), (aB, .inl (cJ, 4, .inr (.inl ((st1 (st1 (stF u (prodF mf ms i j j)) j (prodF mf ms i j 4)) i (prodF mf ms i j j - (st1 (stF u (prodF mf ms i j j)) j (prodF mf ms i j 4)).1 j)).2.2.1))))] H := hP
      have hD : va_D A [(h, .inr (1, [.ref aL, .int (nI n), .ref aF, .ref aS, .ref aT, .long ((st1 (st1 (stF u (prodF mf ms i j j)) j (prodF mf ms i j 4)) i (prodF mf ms i j j - (st1 (stF u (prodF mf ms i j j)) j (prodF mf ms i j 4)).1 j)).2.1), .ref aB, .long ((st1 (st1 (stF u (prodF mf ms i j j)) j (prodF mf ms i j 4)) i (prodF mf ms i j j - (st1 (stF u (prodF mf ms i j j)) j (prodF mf ms i j 4)).1 j)).2.2.2.1), .int (zI ((st1 (st1 (stF u (prodF mf ms i j j)) j (prodF mf ms i j 4)) i (prodF mf ms i j j - (st1 (stF u (prodF mf ms i j j)) j (prodF mf ms i j 4)).1 j)).2.2.2.2))])), (aL, .inl (cI, 4, .inl ml)), (aF, .inl (cJ, 5, .inr (.inl mf))), (aS, .inl (cJ, 5, .inr (.inl ms))), (aT, .inl (cJ, 4, .inr (.inl ((st1 (st1 (stF u (prodF mf ms i j j)) j (prodF mf ms i j 4)) i (prodF mf ms i j j - (st1 (stF u (prodF mf ms i j j)) j (prodF mf ms i j 4)).1 j)).1)))), (aB, .inl (cJ, 4, .inr (.inl ((st1 (st1 (stF u (prodF mf ms i j j)) j (prodF mf ms i j 4)) i (prodF mf ms i j j - (st1 (stF u (prodF mf ms i j j)) j (prodF mf ms i j 4)).1 j)).2.2.1))))] := hD
      refine lv_aload_n hx hb d_M_tryTwo_59 rfl (lv_at hl 1 rfl) ?_
      refine k_callv (wr := []) (va_runV (As := []) (rest := []) ⟨hx, hb, hml, hown, hts⟩ (k_M_keepIfBetter l dC dI cJ cI cZ _ h aL aF aS aT aB ml n mf ms (st1 (st1 (stF u (prodF mf ms i j j)) j (prodF mf ms i j 4)) i (prodF mf ms i j j - (st1 (stF u (prodF mf ms i j j)) j (prodF mf ms i j 4)).1 j)) (by omega)) (k_cw (y := y_M_keepIfBetter) (own := R_M) hts wd_129 wd_26 wd_127 wd_125 wd_126 hd_M_keepIfBetter ⟨Nat.le_of_ble_eq_true rfl, Nat.le_of_ble_eq_true rfl⟩) (k_preV (ci := 1) (q0 := 0) hP hD hK [0, 1, 2, 3, 4, 5] rfl (by decide) rfl rfl) rfl rfl hl.1 rfl (lv_room (Nat.le_of_ble_eq_true rfl)) d_M_tryTwo_60 ⟨Nat.le_of_ble_eq_true rfl, Nat.le_of_ble_eq_true rfl⟩) hP hD hS hA [0, 1, 2, 3, 4, 5] [] rfl rfl (by decide) (by decide) (fun uu H locs hpo hP hD hS => ?_)
      have hP : va_P (dC, dI) vwCl [(h, .inr (1, [.ref aL, .int (nI n), .ref aF, .ref aS, .ref aT, .long ((keepF n (st1 (st1 (stF u (prodF mf ms i j j)) j (prodF mf ms i j 4)) i (prodF mf ms i j j - (st1 (stF u (prodF mf ms i j j)) j (prodF mf ms i j 4)).1 j))).2.1), .ref aB, .long ((keepF n (st1 (st1 (stF u (prodF mf ms i j j)) j (prodF mf ms i j 4)) i (prodF mf ms i j j - (st1 (stF u (prodF mf ms i j j)) j (prodF mf ms i j 4)).1 j))).2.2.2.1), .int (zI ((keepF n (st1 (st1 (stF u (prodF mf ms i j j)) j (prodF mf ms i j 4)) i (prodF mf ms i j j - (st1 (stF u (prodF mf ms i j j)) j (prodF mf ms i j 4)).1 j))).2.2.2.2))])), (aL, .inl (cI, 4, .inl ml)), (aF, .inl (cJ, 5, .inr (.inl mf))), (aS, .inl (cJ, 5, .inr (.inl ms))), (aT, .inl (cJ, 4, .inr (.inl ((keepF n (st1 (st1 (stF u (prodF mf ms i j j)) j (prodF mf ms i j 4)) i (prodF mf ms i j j - (st1 (stF u (prodF mf ms i j j)) j (prodF mf ms i j 4)).1 j))).1)))), (aB, .inl (cJ, 4, .inr (.inl ((keepF n (st1 (st1 (stF u (prodF mf ms i j j)) j (prodF mf ms i j 4)) i (prodF mf ms i j j - (st1 (stF u (prodF mf ms i j j)) j (prodF mf ms i j 4)).1 j))).2.2.1))))] H := hP
      have hD : va_D A [(h, .inr (1, [.ref aL, .int (nI n), .ref aF, .ref aS, .ref aT, .long ((keepF n (st1 (st1 (stF u (prodF mf ms i j j)) j (prodF mf ms i j 4)) i (prodF mf ms i j j - (st1 (stF u (prodF mf ms i j j)) j (prodF mf ms i j 4)).1 j))).2.1), .ref aB, .long ((keepF n (st1 (st1 (stF u (prodF mf ms i j j)) j (prodF mf ms i j 4)) i (prodF mf ms i j j - (st1 (stF u (prodF mf ms i j j)) j (prodF mf ms i j 4)).1 j))).2.2.2.1), .int (zI ((keepF n (st1 (st1 (stF u (prodF mf ms i j j)) j (prodF mf ms i j 4)) i (prodF mf ms i j j - (st1 (stF u (prodF mf ms i j j)) j (prodF mf ms i j 4)).1 j))).2.2.2.2))])), (aL, .inl (cI, 4, .inl ml)), (aF, .inl (cJ, 5, .inr (.inl mf))), (aS, .inl (cJ, 5, .inr (.inl ms))), (aT, .inl (cJ, 4, .inr (.inl ((keepF n (st1 (st1 (stF u (prodF mf ms i j j)) j (prodF mf ms i j 4)) i (prodF mf ms i j j - (st1 (stF u (prodF mf ms i j j)) j (prodF mf ms i j 4)).1 j))).1)))), (aB, .inl (cJ, 4, .inr (.inl ((keepF n (st1 (st1 (stF u (prodF mf ms i j j)) j (prodF mf ms i j 4)) i (prodF mf ms i j j - (st1 (stF u (prodF mf ms i j j)) j (prodF mf ms i j 4)).1 j))).2.2.1))))] := hD
      have hq9 : t2F mf ms n i j u = keepF n (st1 (st1 (stF u (prodF mf ms i j j)) j (prodF mf ms i j 4)) i (prodF mf ms i j j - (st1 (stF u (prodF mf ms i j j)) j (prodF mf ms i j 4)).1 j)) := by unfold t2F; rw [if_neg (fun h => h.elim c_10 (fun z => z c_22))]
      have hP : va_P (dC, dI) vwCl [(h, .inr (1, [.ref aL, .int (nI n), .ref aF, .ref aS, .ref aT, .long ((t2F mf ms n i j u).2.1), .ref aB, .long ((t2F mf ms n i j u).2.2.2.1), .int (zI ((t2F mf ms n i j u).2.2.2.2))])), (aL, .inl (cI, 4, .inl ml)), (aF, .inl (cJ, 5, .inr (.inl mf))), (aS, .inl (cJ, 5, .inr (.inl ms))), (aT, .inl (cJ, 4, .inr (.inl ((t2F mf ms n i j u).1)))), (aB, .inl (cJ, 4, .inr (.inl ((t2F mf ms n i j u).2.2.1))))] H := by rw [hq9]; exact hP
      have hD : va_D A [(h, .inr (1, [.ref aL, .int (nI n), .ref aF, .ref aS, .ref aT, .long ((t2F mf ms n i j u).2.1), .ref aB, .long ((t2F mf ms n i j u).2.2.2.1), .int (zI ((t2F mf ms n i j u).2.2.2.2))])), (aL, .inl (cI, 4, .inl ml)), (aF, .inl (cJ, 5, .inr (.inl mf))), (aS, .inl (cJ, 5, .inr (.inl ms))), (aT, .inl (cJ, 4, .inr (.inl ((t2F mf ms n i j u).1)))), (aB, .inl (cJ, 4, .inr (.inl ((t2F mf ms n i j u).2.2.1))))] := by rw [hq9]; exact hD
      exact k_vret hx hb hr hlocks () trivial hP hD hK hS [0, 1, 2, 3, 4, 5] (by decide) rfl d_M_tryTwo_63
    · have hq9 : t2F mf ms n i j u = u := by first | (unfold t2F; rw [if_pos (Or.inl c_10)]; done) | (unfold t2F; rw [if_pos (Or.inr c_22)]; done)
      have hP : va_P (dC, dI) vwCl [(h, .inr (1, [.ref aL, .int (nI n), .ref aF, .ref aS, .ref aT, .long ((t2F mf ms n i j u).2.1), .ref aB, .long ((t2F mf ms n i j u).2.2.2.1), .int (zI ((t2F mf ms n i j u).2.2.2.2))])), (aL, .inl (cI, 4, .inl ml)), (aF, .inl (cJ, 5, .inr (.inl mf))), (aS, .inl (cJ, 5, .inr (.inl ms))), (aT, .inl (cJ, 4, .inr (.inl ((t2F mf ms n i j u).1)))), (aB, .inl (cJ, 4, .inr (.inl ((t2F mf ms n i j u).2.2.1))))] H := by rw [hq9]; exact hP
      have hD : va_D A [(h, .inr (1, [.ref aL, .int (nI n), .ref aF, .ref aS, .ref aT, .long ((t2F mf ms n i j u).2.1), .ref aB, .long ((t2F mf ms n i j u).2.2.2.1), .int (zI ((t2F mf ms n i j u).2.2.2.2))])), (aL, .inl (cI, 4, .inl ml)), (aF, .inl (cJ, 5, .inr (.inl mf))), (aS, .inl (cJ, 5, .inr (.inl ms))), (aT, .inl (cJ, 4, .inr (.inl ((t2F mf ms n i j u).1)))), (aB, .inl (cJ, 4, .inr (.inl ((t2F mf ms n i j u).2.2.1))))] := by rw [hq9]; exact hD
      exact k_vret hx hb hr hlocks () trivial hP hD hK hS [0, 1, 2, 3, 4, 5] (by decide) rfl d_M_tryTwo_26
/-- M_tryThree -/
abbrev q_M_tryThree (dC : Nat → ClassId) (dI : Nat → Nat → Nat) (cJ cI cZ : ClassId) (h : Nat) (aL : Nat) (aF : Nat) (aS : Nat) (aT : Nat) (aB : Nat) (ml : Nat → Int32) (n : Nat) (mf : Nat → Int64) (ms : Nat → Int64) (u : MixS) (i : Nat) (j : Nat) (k : Nat) (A : Nat → Prop) : Array Value → State → Outcome → State → Prop := va_Qv (fun (_ : Unit) => True) (kB (dC, dI) vwCl [(cJ, .long), (cI, .int), (cZ, .boolean)] A (fun (_ : Unit) => [(h, .inr (1, [.ref aL, .int (nI n), .ref aF, .ref aS, .ref aT, .long ((t3F mf ms n i j k u).2.1), .ref aB, .long ((t3F mf ms n i j k u).2.2.2.1), .int (zI ((t3F mf ms n i j k u).2.2.2.2))])), (aL, .inl (cI, 4, .inl ml)), (aF, .inl (cJ, 5, .inr (.inl mf))), (aS, .inl (cJ, 5, .inr (.inl ms))), (aT, .inl (cJ, 4, .inr (.inl ((t3F mf ms n i j k u).1)))), (aB, .inl (cJ, 4, .inr (.inl ((t3F mf ms n i j k u).2.2.1))))])) A
set_option maxHeartbeats 4000000 in
set_option maxRecDepth 100000 in
theorem k_M_tryThree (l : Launch) (dC : Nat → ClassId) (dI : Nat → Nat → Nat) (cJ cI cZ : ClassId) (sz : Nat) (h : Nat) (aL : Nat) (aF : Nat) (aS : Nat) (aT : Nat) (aB : Nat) (ml : Nat → Int32) (n : Nat) (mf : Nat → Int64) (ms : Nat → Int64) (u : MixS) (i : Nat) (j : Nat) (k : Nat) (hn : n ≤ 4) (hi : i < 4) (hj : j < 4) (hk : k < 4) : Met l y_M_tryThree w_M_tryThree { frames := 2, cells := 0, slots := 0, locals := 46 } (kPc (dC, dI) vwCl [(cJ, .long), (cI, .int), (cZ, .boolean)] [(h, .inr (1, [.ref aL, .int (nI n), .ref aF, .ref aS, .ref aT, .long u.2.1, .ref aB, .long u.2.2.2.1, .int (zI u.2.2.2.2)])), (aL, .inl (cI, 4, .inl ml)), (aF, .inl (cJ, 5, .inr (.inl mf))), (aS, .inl (cJ, 5, .inr (.inl ms))), (aT, .inl (cJ, 4, .inr (.inl u.1))), (aB, .inl (cJ, 4, .inr (.inl u.2.2.1)))] sz [.ref h, .int (nI i), .int (nI j), .int (nI k)]) (q_M_tryThree dC dI cJ cI cZ h aL aF aS aT aB ml n mf ms u i j k (va_A [(h, .inr (1, [.ref aL, .int (nI n), .ref aF, .ref aS, .ref aT, .long u.2.1, .ref aB, .long u.2.2.2.1, .int (zI u.2.2.2.2)])), (aL, .inl (cI, 4, .inl ml)), (aF, .inl (cJ, 5, .inr (.inl mf))), (aS, .inl (cJ, 5, .inr (.inl ms))), (aT, .inl (cJ, 4, .inr (.inl u.1))), (aB, .inl (cJ, 4, .inr (.inl u.2.2.1)))] sz)) 0 0 (va_A [(h, .inr (1, [.ref aL, .int (nI n), .ref aF, .ref aS, .ref aT, .long u.2.1, .ref aB, .long u.2.2.2.1, .int (zI u.2.2.2.2)])), (aL, .inl (cI, 4, .inl ml)), (aF, .inl (cJ, 5, .inr (.inl mf))), (aS, .inl (cJ, 5, .inr (.inl ms))), (aT, .inl (cJ, 4, .inr (.inl u.1))), (aB, .inl (cJ, 4, .inr (.inl u.2.2.1)))] sz) := by
  refine k_met (q_M_tryThree dC dI cJ cI cZ h aL aF aS aT aB ml n mf ms u i j k) (by decide +kernel) rfl (Nat.le_of_ble_eq_true rfl) ?_
  intro p e s m below meth c A hx hb hr hml hown hts hlocks hin hA H hP hK hD hS ls hl
  have hl : lv_has ls 8 [(0, .ref h), (1, .int (nI i)), (2, .int (nI j)), (3, .int (nI k))] := hl
  have hown : s.vm.findClass R_M = some m.cls := hown
  have hts : ∀ wW ∈ kT, wW.before [.ref h, .int (nI i), .int (nI j), .int (nI k)].toArray s = true := fun wW hW => hts wW (List.mem_cons_of_mem _ hW)
  refine lv_aload_n hx hb d_M_tryThree_0 rfl (lv_at hl 0 rfl) ?_
  refine lv_iload_n hx hb d_M_tryThree_1 rfl (lv_at hl 1 rfl) ?_
  refine lv_iload_n hx hb d_M_tryThree_2 rfl (lv_at hl 2 rfl) ?_
  refine lv_iload_n hx hb d_M_tryThree_3 rfl (lv_at hl 3 rfl) ?_
  refine k_calll (wr := []) (va_runV (As := [.int (nI i), .int (nI j), .int (nI k)]) (rest := []) ⟨hx, hb, hml, hown, hts⟩ (k_M_doubleArea l dC dI cJ cI cZ _ h aL aF aS aT aB ml n mf ms u i j k (by omega) (by omega) (by omega)) (k_cw (y := y_M_doubleArea) (own := R_M) hts wd_146 wd_26 wd_144 wd_142 wd_143 hd_M_doubleArea ⟨Nat.le_of_ble_eq_true rfl, Nat.le_of_ble_eq_true rfl⟩) (k_preV (ci := 1) (q0 := 0) hP hD hK [0, 1, 2, 3, 4, 5] rfl (by decide) rfl rfl) rfl rfl hl.1 rfl (lv_room (Nat.le_of_ble_eq_true rfl)) d_M_tryThree_4 ⟨Nat.le_of_ble_eq_true rfl, Nat.le_of_ble_eq_true rfl⟩) hP hD hS hA [0, 1, 2, 3, 4, 5] [] rfl rfl (by decide) (by decide) (fun r_4 uu H locs hpo hP hD hS => ?_)
  have hpo : r_4 = areaF mf ms i j k := hpo
  subst hpo
  have hP : va_P (dC, dI) vwCl [(h, .inr (1, [.ref aL, .int (nI n), .ref aF, .ref aS, .ref aT, .long u.2.1, .ref aB, .long u.2.2.2.1, .int (zI u.2.2.2.2)])), (aL, .inl (cI, 4, .inl ml)), (aF, .inl (cJ, 5, .inr (.inl mf))), (aS, .inl (cJ, 5, .inr (.inl ms))), (aT, .inl (cJ, 4, .inr (.inl u.1))), (aB, .inl (cJ, 4, .inr (.inl u.2.2.1)))] H := hP
  have hD : va_D A [(h, .inr (1, [.ref aL, .int (nI n), .ref aF, .ref aS, .ref aT, .long u.2.1, .ref aB, .long u.2.2.2.1, .int (zI u.2.2.2.2)])), (aL, .inl (cI, 4, .inl ml)), (aF, .inl (cJ, 5, .inr (.inl mf))), (aS, .inl (cJ, 5, .inr (.inl ms))), (aT, .inl (cJ, 4, .inr (.inl u.1))), (aB, .inl (cJ, 4, .inr (.inl u.2.2.1)))] := hD
  refine lv_lstore (lv' := [(4, .long (areaF mf ms i j k)), (0, .ref h), (1, .int (nI i)), (2, .int (nI j)), (3, .int (nI k))]) hx hb d_M_tryThree_7 hl (by decide) rfl (fun ls hl => ?_)
  refine lv_lload hx hb d_M_tryThree_9 (lv_at hl 0 rfl) ?_
  refine lv_lconst (v := 0) hx hb d_M_tryThree_11 (by decide) ?_
  refine k_jne (tgt := 17) hx hb d_M_tryThree_12 d_M_tryThree_13 (by decide) (fun c_12 => ?_) (fun c_12 => ?_)
  · have cut_31 : ∀  (H : Heap) (locs : List Loc) (ls : Array Slot), va_P (dC, dI) vwCl [(h, .inr (1, [.ref aL, .int (nI n), .ref aF, .ref aS, .ref aT, .long u.2.1, .ref aB, .long u.2.2.2.1, .int (zI u.2.2.2.2)])), (aL, .inl (cI, 4, .inl ml)), (aF, .inl (cJ, 5, .inr (.inl mf))), (aS, .inl (cJ, 5, .inr (.inl ms))), (aT, .inl (cJ, 4, .inr (.inl u.1))), (aB, .inl (cJ, 4, .inr (.inl u.2.2.1)))] H → va_D A [(h, .inr (1, [.ref aL, .int (nI n), .ref aF, .ref aS, .ref aT, .long u.2.1, .ref aB, .long u.2.2.2.1, .int (zI u.2.2.2.2)])), (aL, .inl (cI, 4, .inl ml)), (aF, .inl (cJ, 5, .inr (.inl mf))), (aS, .inl (cJ, 5, .inr (.inl ms))), (aT, .inl (cJ, 4, .inr (.inl u.1))), (aB, .inl (cJ, 4, .inr (.inl u.2.2.1)))] → va_S A s.heap H locs → lv_has ls 8 [(0, .ref h), (1, .int (nI i)), (2, .int (nI j)), (3, .int (nI k)), (4, .long (areaF mf ms i j k))] → W p l e { frames := 2, cells := 0, slots := 0, locals := 46 } s m [.ref h, .int (nI i), .int (nI j), .int (nI k)].toArray below meth c H locs 0 0 (MQ below (q_M_tryThree dC dI cJ cI cZ h aL aF aS aT aB ml n mf ms u i j k A) [.ref h, .int (nI i), .int (nI j), .int (nI k)].toArray s 0 0 A) (F0 m 31 ls [.long (sgF (areaF mf ms i j k))]) := by
      intro  H locs ls hP hD hS hl
      refine lv_lstore (lv' := [(6, .long (sgF (areaF mf ms i j k))), (0, .ref h), (1, .int (nI i)), (2, .int (nI j)), (3, .int (nI k)), (4, .long (areaF mf ms i j k))]) hx hb d_M_tryThree_31 hl (by decide) rfl (fun ls hl => ?_)
      refine lv_aload_n hx hb d_M_tryThree_33 rfl (lv_at hl 1 rfl) ?_
      refine lv_lload hx hb d_M_tryThree_34 (lv_at hl 0 rfl) ?_
      refine lv_lload hx hb d_M_tryThree_36 (lv_at hl 5 rfl) ?_
      refine lv_lmul hx hb d_M_tryThree_38 ?_
      refine k_callv (wr := []) (va_runV (As := [.long ((sgF (areaF mf ms i j k)) * (areaF mf ms i j k))]) (rest := []) ⟨hx, hb, hml, hown, hts⟩ (k_M_startTrial l dC dI cJ cI cZ _ h aL aF aS aT aB ml n mf ms u ((sgF (areaF mf ms i j k)) * (areaF mf ms i j k))) (k_cw (y := y_M_startTrial) (own := R_M) hts wd_128 wd_26 wd_124 wd_122 wd_123 hd_M_startTrial ⟨Nat.le_of_ble_eq_true rfl, Nat.le_of_ble_eq_true rfl⟩) (k_preV (ci := 1) (q0 := 0) hP hD hK [0, 1, 2, 3, 4, 5] rfl (by decide) rfl rfl) rfl rfl hl.1 rfl (lv_room (Nat.le_of_ble_eq_true rfl)) d_M_tryThree_39 ⟨Nat.le_of_ble_eq_true rfl, Nat.le_of_ble_eq_true rfl⟩) hP hD hS hA [0, 1, 2, 3, 4, 5] [] rfl rfl (by decide) (by decide) (fun uu H locs hpo hP hD hS => ?_)
      have hP : va_P (dC, dI) vwCl [(h, .inr (1, [.ref aL, .int (nI n), .ref aF, .ref aS, .ref aT, .long ((stF u ((sgF (areaF mf ms i j k)) * (areaF mf ms i j k))).2.1), .ref aB, .long ((stF u ((sgF (areaF mf ms i j k)) * (areaF mf ms i j k))).2.2.2.1), .int (zI ((stF u ((sgF (areaF mf ms i j k)) * (areaF mf ms i j k))).2.2.2.2))])), (aL, .inl (cI, 4, .inl ml)), (aF, .inl (cJ, 5, .inr (.inl mf))), (aS, .inl (cJ, 5, .inr (.inl ms))), (aT, .inl (cJ, 4, .inr (.inl ((stF u ((sgF (areaF mf ms i j k)) * (areaF mf ms i j k))).1)))), (aB, .inl (cJ, 4, .inr (.inl ((stF u ((sgF (areaF mf ms i j k)) * (areaF mf ms i j k))).2.2.1))))] H := hP
      have hD : va_D A [(h, .inr (1, [.ref aL, .int (nI n), .ref aF, .ref aS, .ref aT, .long ((stF u ((sgF (areaF mf ms i j k)) * (areaF mf ms i j k))).2.1), .ref aB, .long ((stF u ((sgF (areaF mf ms i j k)) * (areaF mf ms i j k))).2.2.2.1), .int (zI ((stF u ((sgF (areaF mf ms i j k)) * (areaF mf ms i j k))).2.2.2.2))])), (aL, .inl (cI, 4, .inl ml)), (aF, .inl (cJ, 5, .inr (.inl mf))), (aS, .inl (cJ, 5, .inr (.inl ms))), (aT, .inl (cJ, 4, .inr (.inl ((stF u ((sgF (areaF mf ms i j k)) * (areaF mf ms i j k))).1)))), (aB, .inl (cJ, 4, .inr (.inl ((stF u ((sgF (areaF mf ms i j k)) * (areaF mf ms i j k))).2.2.1))))] := hD
      refine lv_aload_n hx hb d_M_tryThree_42 rfl (lv_at hl 1 rfl) ?_
      refine va_get (D := (dC, dI)) (ci := 1) (v := .ref aT) (C := R_M) (T := T_M) (N := 9) hx hb hts iT_M hown hK hP 0 rfl rfl 4 (by decide) (hts _ wd_40) (fun _ h9 => h9) rfl d_M_tryThree_43 ?_
      refine lv_iload_n hx hb d_M_tryThree_46 rfl (lv_at hl 2 rfl) ?_
      refine lv_lload hx hb d_M_tryThree_47 (lv_at hl 0 rfl) ?_
      refine lv_aload_n hx hb d_M_tryThree_49 rfl (lv_at hl 1 rfl) ?_
      refine lv_iconst (v := nI 4) hx hb d_M_tryThree_50 (by decide) ?_
      refine lv_iload_n hx hb d_M_tryThree_51 rfl (lv_at hl 3 rfl) ?_
      refine lv_iload_n hx hb d_M_tryThree_52 rfl (lv_at hl 4 rfl) ?_
      refine k_calll (wr := []) (va_runV (As := [.int (nI 4), .int (nI j), .int (nI k)]) (rest := [.long (sgF (areaF mf ms i j k)), .int (nI i), .ref aT]) ⟨hx, hb, hml, hown, hts⟩ (k_M_doubleArea l dC dI cJ cI cZ _ h aL aF aS aT aB ml n mf ms (stF u ((sgF (areaF mf ms i j k)) * (areaF mf ms i j k))) 4 j k (by omega) (by omega) (by omega)) (k_cw (y := y_M_doubleArea) (own := R_M) hts wd_146 wd_26 wd_144 wd_142 wd_143 hd_M_doubleArea ⟨Nat.le_of_ble_eq_true rfl, Nat.le_of_ble_eq_true rfl⟩) (k_preV (ci := 1) (q0 := 0) hP hD hK [0, 1, 2, 3, 4, 5] rfl (by decide) rfl rfl) rfl rfl hl.1 rfl (lv_room (Nat.le_of_ble_eq_true rfl)) d_M_tryThree_53 ⟨Nat.le_of_ble_eq_true rfl, Nat.le_of_ble_eq_true rfl⟩) hP hD hS hA [0, 1, 2, 3, 4, 5] [] rfl rfl (by decide) (by decide) (fun r_53 uu H locs hpo hP hD hS => ?_)
      have hpo : r_53 = areaF mf ms 4 j k := hpo
      subst hpo
      have hP : va_P (dC, dI) vwCl [(h, .inr (1, [.ref aL, .int (nI n), .ref aF, .ref aS, .ref aT, .long ((stF u ((sgF (areaF mf ms i j k)) * (areaF mf ms i j k))).2.1), .ref aB, .long ((stF u ((sgF (areaF mf ms i j k)) * (areaF mf ms i j k))).2.2.2.1), .int (zI (stF u ((sgF (areaF mf ms i j k)) * (areaF mf ms i j k))).2.2.2.2)])), (aL, .inl (cI, 4, .inl ml)), (aF, .inl (cJ, 5, .inr (.inl mf))), (aS, .inl (cJ, 5, .inr (.inl ms))), (aT, .inl (cJ, 4, .inr (.inl ((stF u ((sgF (areaF mf ms i j k)) * (areaF mf ms i j k))).1)))), (aB, .inl (cJ, 4, .inr (.inl ((stF u ((sgF (areaF mf ms i j k)) * (areaF mf ms i j k))).2.2.1))))] H := hP
      have hD : va_D A [(h, .inr (1, [.ref aL, .int (nI n), .ref aF, .ref aS, .ref aT, .long ((stF u ((sgF (areaF mf ms i j k)) * (areaF mf ms i j k))).2.1), .ref aB, .long ((stF u ((sgF (areaF mf ms i j k)) * (areaF mf ms i j k))).2.2.2.1), .int (zI (stF u ((sgF (areaF mf ms i j k)) * (areaF mf ms i j k))).2.2.2.2)])), (aL, .inl (cI, 4, .inl ml)), (aF, .inl (cJ, 5, .inr (.inl mf))), (aS, .inl (cJ, 5, .inr (.inl ms))), (aT, .inl (cJ, 4, .inr (.inl ((stF u ((sgF (areaF mf ms i j k)) * (areaF mf ms i j k))).1)))), (aB, .inl (cJ, 4, .inr (.inl ((stF u ((sgF (areaF mf ms i j k)) * (areaF mf ms i j k))).2.2.1))))] := hD
      refine lv_lmul hx hb d_M_tryThree_56 ?_
      refine k_last (j := i) hx hb hK hP hD hS 4 0 rfl rfl (by omega) (by decide) d_M_tryThree_57 (fun H locs hP hD hS => ?_)
      have hP : va_P (dC, dI) vwCl [(h, .inr (1, [.ref aL, .int (nI n), .ref aF, .ref aS, .ref aT, .long ((stF u ((sgF (areaF mf ms i j k)) * (areaF mf ms i j k))).2.1), .ref aB, .long ((stF u ((sgF (areaF mf ms i j k)) * (areaF mf ms i j k))).2.2.2.1), .int (zI (stF u ((sgF (areaF mf ms i j k)) * (areaF mf ms i j k))).2.2.2.2)])), (aL, .inl (cI, 4, .inl ml)), (aF, .inl (cJ, 5, .inr (.inl mf))), (aS, .inl (cJ, 5, .inr (.inl ms))), (aT, .inl (cJ, 4, .inr (.inl (vp_updL ((stF u ((sgF (areaF mf ms i j k)) * (areaF mf ms i j k))).1) i ((sgF (areaF mf ms i j k)) * (areaF mf ms 4 j k)))))), (aB, .inl (cJ, 4, .inr (.inl ((stF u ((sgF (areaF mf ms i j k)) * (areaF mf ms i j k))).2.2.1))))] H := hP
      have hD : va_D A [(h, .inr (1, [.ref aL, .int (nI n), .ref aF, .ref aS, .ref aT, .long ((stF u ((sgF (areaF mf ms i j k)) * (areaF mf ms i j k))).2.1), .ref aB, .long ((stF u ((sgF (areaF mf ms i j k)) * (areaF mf ms i j k))).2.2.2.1), .int (zI (stF u ((sgF (areaF mf ms i j k)) * (areaF mf ms i j k))).2.2.2.2)])), (aL, .inl (cI, 4, .inl ml)), (aF, .inl (cJ, 5, .inr (.inl mf))), (aS, .inl (cJ, 5, .inr (.inl ms))), (aT, .inl (cJ, 4, .inr (.inl (vp_updL ((stF u ((sgF (areaF mf ms i j k)) * (areaF mf ms i j k))).1) i ((sgF (areaF mf ms i j k)) * (areaF mf ms 4 j k)))))), (aB, .inl (cJ, 4, .inr (.inl ((stF u ((sgF (areaF mf ms i j k)) * (areaF mf ms i j k))).2.2.1))))] := hD
      have hP : va_P (dC, dI) vwCl [(h, .inr (1, [.ref aL, .int (nI n), .ref aF, .ref aS, .ref aT, .long ((st1 (stF u (sgF (areaF mf ms i j k) * areaF mf ms i j k)) i (sgF (areaF mf ms i j k) * areaF mf ms 4 j k)).2.1), .ref aB, .long ((st1 (stF u (sgF (areaF mf ms i j k) * areaF mf ms i j k)) i (sgF (areaF mf ms i j k) * areaF mf ms 4 j k)).2.2.2.1), .int (zI ((st1 (stF u (sgF (areaF mf ms i j k) * areaF mf ms i j k)) i (sgF (areaF mf ms i j k) * areaF mf ms 4 j k)).2.2.2.2))])), (aL, .inl (cI, 4, .inl ml)), (aF, .inl (cJ, 5, .inr (.inl mf))), (aS, .inl (cJ, 5, .inr (.inl ms))), (aT, .inl (cJ, 4, .inr (.inl ((st1 (stF u (sgF (areaF mf ms i j k) * areaF mf ms i j k)) i (sgF (areaF mf ms i j k) * areaF mf ms 4 j k)).1)))), (aB, .inl (cJ, 4, .inr (.inl ((st1 (stF u (sgF (areaF mf ms i j k) * areaF mf ms i j k)) i (sgF (areaF mf ms i j k) * areaF mf ms 4 j k)).2.2.1))))] H := hP
      have hD : va_D A [(h, .inr (1, [.ref aL, .int (nI n), .ref aF, .ref aS, .ref aT, .long ((st1 (stF u (sgF (areaF mf ms i j k) * areaF mf ms i j k)) i (sgF (areaF mf ms i j k) * areaF mf ms 4 j k)).2.1), .ref aB, .long ((st1 (stF u (sgF (areaF mf ms i j k) * areaF mf ms i j k)) i (sgF (areaF mf ms i j k) * areaF mf ms 4 j k)).2.2.2.1), .int (zI ((st1 (stF u (sgF (areaF mf ms i j k) * areaF mf ms i j k)) i (sgF (areaF mf ms i j k) * areaF mf ms 4 j k)).2.2.2.2))])), (aL, .inl (cI, 4, .inl ml)), (aF, .inl (cJ, 5, .inr (.inl mf))), (aS, .inl (cJ, 5, .inr (.inl ms))), (aT, .inl (cJ, 4, .inr (.inl ((st1 (stF u (sgF (areaF mf ms i j k) * areaF mf ms i j k)) i (sgF (areaF mf ms i j k) * areaF mf ms 4 j k)).1)))), (aB, .inl (cJ, 4, .inr (.inl ((st1 (stF u (sgF (areaF mf ms i j k) * areaF mf ms i j k)) i (sgF (areaF mf ms i j k) * areaF mf ms 4 j k)).2.2.1))))] := hD
      refine lv_aload_n hx hb d_M_tryThree_58 rfl (lv_at hl 1 rfl) ?_
      refine va_get (D := (dC, dI)) (ci := 1) (v := .ref aT) (C := R_M) (T := T_M) (N := 9) hx hb hts iT_M hown hK hP 0 rfl rfl 4 (by decide) (hts _ wd_40) (fun _ h9 => h9) rfl d_M_tryThree_59 ?_
      refine lv_iload_n hx hb d_M_tryThree_62 rfl (lv_at hl 3 rfl) ?_
      refine lv_lload hx hb d_M_tryThree_63 (lv_at hl 0 rfl) ?_
      refine lv_aload_n hx hb d_M_tryThree_65 rfl (lv_at hl 1 rfl) ?_
      refine lv_iload_n hx hb d_M_tryThree_66 rfl (lv_at hl 2 rfl) ?_
      refine lv_iconst (v := nI 4) hx hb d_M_tryThree_67 (by decide) ?_
      refine lv_iload_n hx hb d_M_tryThree_68 rfl (lv_at hl 4 rfl) ?_
      refine k_calll (wr := []) (va_runV (As := [.int (nI i), .int (nI 4), .int (nI k)]) (rest := [.long (sgF (areaF mf ms i j k)), .int (nI j), .ref aT]) ⟨hx, hb, hml, hown, hts⟩ (k_M_doubleArea l dC dI cJ cI cZ _ h aL aF aS aT aB ml n mf ms (st1 (stF u (sgF (areaF mf ms i j k) * areaF mf ms i j k)) i (sgF (areaF mf ms i j k) * areaF mf ms 4 j k)) i 4 k (by omega) (by omega) (by omega)) (k_cw (y := y_M_doubleArea) (own := R_M) hts wd_146 wd_26 wd_144 wd_142 wd_143 hd_M_doubleArea ⟨Nat.le_of_ble_eq_true rfl, Nat.le_of_ble_eq_true rfl⟩) (k_preV (ci := 1) (q0 := 0) hP hD hK [0, 1, 2, 3, 4, 5] rfl (by decide) rfl rfl) rfl rfl hl.1 rfl (lv_room (Nat.le_of_ble_eq_true rfl)) d_M_tryThree_69 ⟨Nat.le_of_ble_eq_true rfl, Nat.le_of_ble_eq_true rfl⟩) hP hD hS hA [0, 1, 2, 3, 4, 5] [] rfl rfl (by decide) (by decide) (fun r_69 uu H locs hpo hP hD hS => ?_)
      have hpo : r_69 = areaF mf ms i 4 k := hpo
      subst hpo
      have hP : va_P (dC, dI) vwCl [(h, .inr (1, [.ref aL, .int (nI n), .ref aF, .ref aS, .ref aT, .long ((st1 (stF u (sgF (areaF mf ms i j k) * areaF mf ms i j k)) i (sgF (areaF mf ms i j k) * areaF mf ms 4 j k)).2.1), .ref aB, .long ((st1 (stF u (sgF (areaF mf ms i j k) * areaF mf ms i j k)) i (sgF (areaF mf ms i j k) * areaF mf ms 4 j k)).2.2.2.1), .int (zI (st1 (stF u (sgF (areaF mf ms i j k) * areaF mf ms i j k)) i (sgF (areaF mf ms i j k) * areaF mf ms 4 j k)).2.2.2.2)])), (aL, .inl (cI, 4, .inl ml)), (aF, .inl (cJ, 5, .inr (.inl mf))), (aS, .inl (cJ, 5, .inr (.inl ms))), (aT, .inl (cJ, 4, .inr (.inl ((st1 (stF u (sgF (areaF mf ms i j k) * areaF mf ms i j k)) i (sgF (areaF mf ms i j k) * areaF mf ms 4 j k)).1)))), (aB, .inl (cJ, 4, .inr (.inl ((st1 (stF u (sgF (areaF mf ms i j k) * areaF mf ms i j k)) i (sgF (areaF mf ms i j k) * areaF mf ms 4 j k)).2.2.1))))] H := hP
      have hD : va_D A [(h, .inr (1, [.ref aL, .int (nI n), .ref aF, .ref aS, .ref aT, .long ((st1 (stF u (sgF (areaF mf ms i j k) * areaF mf ms i j k)) i (sgF (areaF mf ms i j k) * areaF mf ms 4 j k)).2.1), .ref aB, .long ((st1 (stF u (sgF (areaF mf ms i j k) * areaF mf ms i j k)) i (sgF (areaF mf ms i j k) * areaF mf ms 4 j k)).2.2.2.1), .int (zI (st1 (stF u (sgF (areaF mf ms i j k) * areaF mf ms i j k)) i (sgF (areaF mf ms i j k) * areaF mf ms 4 j k)).2.2.2.2)])), (aL, .inl (cI, 4, .inl ml)), (aF, .inl (cJ, 5, .inr (.inl mf))), (aS, .inl (cJ, 5, .inr (.inl ms))), (aT, .inl (cJ, 4, .inr (.inl ((st1 (stF u (sgF (areaF mf ms i j k) * areaF mf ms i j k)) i (sgF (areaF mf ms i j k) * areaF mf ms 4 j k)).1)))), (aB, .inl (cJ, 4, .inr (.inl ((st1 (stF u (sgF (areaF mf ms i j k) * areaF mf ms i j k)) i (sgF (areaF mf ms i j k) * areaF mf ms 4 j k)).2.2.1))))] := hD
      refine lv_lmul hx hb d_M_tryThree_72 ?_
      refine k_last (j := j) hx hb hK hP hD hS 4 0 rfl rfl (by omega) (by decide) d_M_tryThree_73 (fun H locs hP hD hS => ?_)
      have hP : va_P (dC, dI) vwCl [(h, .inr (1, [.ref aL, .int (nI n), .ref aF, .ref aS, .ref aT, .long ((st1 (stF u (sgF (areaF mf ms i j k) * areaF mf ms i j k)) i (sgF (areaF mf ms i j k) * areaF mf ms 4 j k)).2.1), .ref aB, .long ((st1 (stF u (sgF (areaF mf ms i j k) * areaF mf ms i j k)) i (sgF (areaF mf ms i j k) * areaF mf ms 4 j k)).2.2.2.1), .int (zI (st1 (stF u (sgF (areaF mf ms i j k) * areaF mf ms i j k)) i (sgF (areaF mf ms i j k) * areaF mf ms 4 j k)).2.2.2.2)])), (aL, .inl (cI, 4, .inl ml)), (aF, .inl (cJ, 5, .inr (.inl mf))), (aS, .inl (cJ, 5, .inr (.inl ms))), (aT, .inl (cJ, 4, .inr (.inl (vp_updL ((st1 (stF u (sgF (areaF mf ms i j k) * areaF mf ms i j k)) i (sgF (areaF mf ms i j k) * areaF mf ms 4 j k)).1) j ((sgF (areaF mf ms i j k)) * (areaF mf ms i 4 k)))))), (aB, .inl (cJ, 4, .inr (.inl ((st1 (stF u (sgF (areaF mf ms i j k) * areaF mf ms i j k)) i (sgF (areaF mf ms i j k) * areaF mf ms 4 j k)).2.2.1))))] H := hP
      have hD : va_D A [(h, .inr (1, [.ref aL, .int (nI n), .ref aF, .ref aS, .ref aT, .long ((st1 (stF u (sgF (areaF mf ms i j k) * areaF mf ms i j k)) i (sgF (areaF mf ms i j k) * areaF mf ms 4 j k)).2.1), .ref aB, .long ((st1 (stF u (sgF (areaF mf ms i j k) * areaF mf ms i j k)) i (sgF (areaF mf ms i j k) * areaF mf ms 4 j k)).2.2.2.1), .int (zI (st1 (stF u (sgF (areaF mf ms i j k) * areaF mf ms i j k)) i (sgF (areaF mf ms i j k) * areaF mf ms 4 j k)).2.2.2.2)])), (aL, .inl (cI, 4, .inl ml)), (aF, .inl (cJ, 5, .inr (.inl mf))), (aS, .inl (cJ, 5, .inr (.inl ms))), (aT, .inl (cJ, 4, .inr (.inl (vp_updL ((st1 (stF u (sgF (areaF mf ms i j k) * areaF mf ms i j k)) i (sgF (areaF mf ms i j k) * areaF mf ms 4 j k)).1) j ((sgF (areaF mf ms i j k)) * (areaF mf ms i 4 k)))))), (aB, .inl (cJ, 4, .inr (.inl ((st1 (stF u (sgF (areaF mf ms i j k) * areaF mf ms i j k)) i (sgF (areaF mf ms i j k) * areaF mf ms 4 j k)).2.2.1))))] := hD
      have hP : va_P (dC, dI) vwCl [(h, .inr (1, [.ref aL, .int (nI n), .ref aF, .ref aS, .ref aT, .long ((st1 (st1 (stF u (sgF (areaF mf ms i j k) * areaF mf ms i j k)) i (sgF (areaF mf ms i j k) * areaF mf ms 4 j k)) j (sgF (areaF mf ms i j k) * areaF mf ms i 4 k)).2.1), .ref aB, .long ((st1 (st1 (stF u (sgF (areaF mf ms i j k) * areaF mf ms i j k)) i (sgF (areaF mf ms i j k) * areaF mf ms 4 j k)) j (sgF (areaF mf ms i j k) * areaF mf ms i 4 k)).2.2.2.1), .int (zI ((st1 (st1 (stF u (sgF (areaF mf ms i j k) * areaF mf ms i j k)) i (sgF (areaF mf ms i j k) * areaF mf ms 4 j k)) j (sgF (areaF mf ms i j k) * areaF mf ms i 4 k)).2.2.2.2))])), (aL, .inl (cI, 4, .inl ml)), (aF, .inl (cJ, 5, .inr (.inl mf))), (aS, .inl (cJ, 5, .inr (.inl ms))), (aT, .inl (cJ, 4, .inr (.inl ((st1 (st1 (stF u (sgF (areaF mf ms i j k) * areaF mf ms i j k)) i (sgF (areaF mf ms i j k) * areaF mf ms 4 j k)) j (sgF (areaF mf ms i j k) * areaF mf ms i 4 k)).1)))), (aB, .inl (cJ, 4, .inr (.inl ((st1 (st1 (stF u (sgF (areaF mf ms i j k) * areaF mf ms i j k)) i (sgF (areaF mf ms i j k) * areaF mf ms 4 j k)) j (sgF (areaF mf ms i j k) * areaF mf ms i 4 k)).2.2.1))))] H := hP
      have hD : va_D A [(h, .inr (1, [.ref aL, .int (nI n), .ref aF, .ref aS, .ref aT, .long ((st1 (st1 (stF u (sgF (areaF mf ms i j k) * areaF mf ms i j k)) i (sgF (areaF mf ms i j k) * areaF mf ms 4 j k)) j (sgF (areaF mf ms i j k) * areaF mf ms i 4 k)).2.1), .ref aB, .long ((st1 (st1 (stF u (sgF (areaF mf ms i j k) * areaF mf ms i j k)) i (sgF (areaF mf ms i j k) * areaF mf ms 4 j k)) j (sgF (areaF mf ms i j k) * areaF mf ms i 4 k)).2.2.2.1), .int (zI ((st1 (st1 (stF u (sgF (areaF mf ms i j k) * areaF mf ms i j k)) i (sgF (areaF mf ms i j k) * areaF mf ms 4 j k)) j (sgF (areaF mf ms i j k) * areaF mf ms i 4 k)).2.2.2.2))])), (aL, .inl (cI, 4, .inl ml)), (aF, .inl (cJ, 5, .inr (.inl mf))), (aS, .inl (cJ, 5, .inr (.inl ms))), (aT, .inl (cJ, 4, .inr (.inl ((st1 (st1 (stF u (sgF (areaF mf ms i j k) * areaF mf ms i j k)) i (sgF (areaF mf ms i j k) * areaF mf ms 4 j k)) j (sgF (areaF mf ms i j k) * areaF mf ms i 4 k)).1)))), (aB, .inl (cJ, 4, .inr (.inl ((st1 (st1 (stF u (sgF (areaF mf ms i j k) * areaF mf ms i j k)) i (sgF (areaF mf ms i j k) * areaF mf ms 4 j k)) j (sgF (areaF mf ms i j k) * areaF mf ms i 4 k)).2.2.1))))] := hD
      refine lv_aload_n hx hb d_M_tryThree_74 rfl (lv_at hl 1 rfl) ?_
      refine va_get (D := (dC, dI)) (ci := 1) (v := .ref aT) (C := R_M) (T := T_M) (N := 9) hx hb hts iT_M hown hK hP 0 rfl rfl 4 (by decide) (hts _ wd_40) (fun _ h9 => h9) rfl d_M_tryThree_75 ?_
      refine lv_iload_n hx hb d_M_tryThree_78 rfl (lv_at hl 4 rfl) ?_
      refine lv_lload hx hb d_M_tryThree_79 (lv_at hl 0 rfl) ?_
      refine lv_aload_n hx hb d_M_tryThree_81 rfl (lv_at hl 1 rfl) ?_
      refine lv_iload_n hx hb d_M_tryThree_82 rfl (lv_at hl 2 rfl) ?_
      refine lv_iload_n hx hb d_M_tryThree_83 rfl (lv_at hl 3 rfl) ?_
      refine lv_iconst (v := nI 4) hx hb d_M_tryThree_84 (by decide) ?_
      refine k_calll (wr := []) (va_runV (As := [.int (nI i), .int (nI j), .int (nI 4)]) (rest := [.long (sgF (areaF mf ms i j k)), .int (nI k), .ref aT]) ⟨hx, hb, hml, hown, hts⟩ (k_M_doubleArea l dC dI cJ cI cZ _ h aL aF aS aT aB ml n mf ms (st1 (st1 (stF u (sgF (areaF mf ms i j k) * areaF mf ms i j k)) i (sgF (areaF mf ms i j k) * areaF mf ms 4 j k)) j (sgF (areaF mf ms i j k) * areaF mf ms i 4 k)) i j 4 (by omega) (by omega) (by omega)) (k_cw (y := y_M_doubleArea) (own := R_M) hts wd_146 wd_26 wd_144 wd_142 wd_143 hd_M_doubleArea ⟨Nat.le_of_ble_eq_true rfl, Nat.le_of_ble_eq_true rfl⟩) (k_preV (ci := 1) (q0 := 0) hP hD hK [0, 1, 2, 3, 4, 5] rfl (by decide) rfl rfl) rfl rfl hl.1 rfl (lv_room (Nat.le_of_ble_eq_true rfl)) d_M_tryThree_85 ⟨Nat.le_of_ble_eq_true rfl, Nat.le_of_ble_eq_true rfl⟩) hP hD hS hA [0, 1, 2, 3, 4, 5] [] rfl rfl (by decide) (by decide) (fun r_85 uu H locs hpo hP hD hS => ?_)
      have hpo : r_85 = areaF mf ms i j 4 := hpo
      subst hpo
      have hP : va_P (dC, dI) vwCl [(h, .inr (1, [.ref aL, .int (nI n), .ref aF, .ref aS, .ref aT, .long ((st1 (st1 (stF u (sgF (areaF mf ms i j k) * areaF mf ms i j k)) i (sgF (areaF mf ms i j k) * areaF mf ms 4 j k)) j (sgF (areaF mf ms i j k) * areaF mf ms i 4 k)).2.1), .ref aB, .long ((st1 (st1 (stF u (sgF (areaF mf ms i j k) * areaF mf ms i j k)) i (sgF (areaF mf ms i j k) * areaF mf ms 4 j k)) j (sgF (areaF mf ms i j k) * areaF mf ms i 4 k)).2.2.2.1), .int (zI (st1 (st1 (stF u (sgF (areaF mf ms i j k) * areaF mf ms i j k)) i (sgF (areaF mf ms i j k) * areaF mf ms 4 j k)) j (sgF (areaF mf ms i j k) * areaF mf ms i 4 k)).2.2.2.2)])), (aL, .inl (cI, 4, .inl ml)), (aF, .inl (cJ, 5, .inr (.inl mf))), (aS, .inl (cJ, 5, .inr (.inl ms))), (aT, .inl (cJ, 4, .inr (.inl ((st1 (st1 (stF u (sgF (areaF mf ms i j k) * areaF mf ms i j k)) i (sgF (areaF mf ms i j k) * areaF mf ms 4 j k)) j (sgF (areaF mf ms i j k) * areaF mf ms i 4 k)).1)))), (aB, .inl (cJ, 4, .inr (.inl ((st1 (st1 (stF u (sgF (areaF mf ms i j k) * areaF mf ms i j k)) i (sgF (areaF mf ms i j k) * areaF mf ms 4 j k)) j (sgF (areaF mf ms i j k) * areaF mf ms i 4 k)).2.2.1))))] H := hP
      have hD : va_D A [(h, .inr (1, [.ref aL, .int (nI n), .ref aF, .ref aS, .ref aT, .long ((st1 (st1 (stF u (sgF (areaF mf ms i j k) * areaF mf ms i j k)) i (sgF (areaF mf ms i j k) * areaF mf ms 4 j k)) j (sgF (areaF mf ms i j k) * areaF mf ms i 4 k)).2.1), .ref aB, .long ((st1 (st1 (stF u (sgF (areaF mf ms i j k) * areaF mf ms i j k)) i (sgF (areaF mf ms i j k) * areaF mf ms 4 j k)) j (sgF (areaF mf ms i j k) * areaF mf ms i 4 k)).2.2.2.1), .int (zI (st1 (st1 (stF u (sgF (areaF mf ms i j k) * areaF mf ms i j k)) i (sgF (areaF mf ms i j k) * areaF mf ms 4 j k)) j (sgF (areaF mf ms i j k) * areaF mf ms i 4 k)).2.2.2.2)])), (aL, .inl (cI, 4, .inl ml)), (aF, .inl (cJ, 5, .inr (.inl mf))), (aS, .inl (cJ, 5, .inr (.inl ms))), (aT, .inl (cJ, 4, .inr (.inl ((st1 (st1 (stF u (sgF (areaF mf ms i j k) * areaF mf ms i j k)) i (sgF (areaF mf ms i j k) * areaF mf ms 4 j k)) j (sgF (areaF mf ms i j k) * areaF mf ms i 4 k)).1)))), (aB, .inl (cJ, 4, .inr (.inl ((st1 (st1 (stF u (sgF (areaF mf ms i j k) * areaF mf ms i j k)) i (sgF (areaF mf ms i j k) * areaF mf ms 4 j k)) j (sgF (areaF mf ms i j k) * areaF mf ms i 4 k)).2.2.1))))] := hD
      refine lv_lmul hx hb d_M_tryThree_88 ?_
      refine k_last (j := k) hx hb hK hP hD hS 4 0 rfl rfl (by omega) (by decide) d_M_tryThree_89 (fun H locs hP hD hS => ?_)
      have hP : va_P (dC, dI) vwCl [(h, .inr (1, [.ref aL, .int (nI n), .ref aF, .ref aS, .ref aT, .long ((st1 (st1 (stF u (sgF (areaF mf ms i j k) * areaF mf ms i j k)) i (sgF (areaF mf ms i j k) * areaF mf ms 4 j k)) j (sgF (areaF mf ms i j k) * areaF mf ms i 4 k)).2.1), .ref aB, .long ((st1 (st1 (stF u (sgF (areaF mf ms i j k) * areaF mf ms i j k)) i (sgF (areaF mf ms i j k) * areaF mf ms 4 j k)) j (sgF (areaF mf ms i j k) * areaF mf ms i 4 k)).2.2.2.1), .int (zI (st1 (st1 (stF u (sgF (areaF mf ms i j k) * areaF mf ms i j k)) i (sgF (areaF mf ms i j k) * areaF mf ms 4 j k)) j (sgF (areaF mf ms i j k) * areaF mf ms i 4 k)).2.2.2.2)])), (aL, .inl (cI, 4, .inl ml)), (aF, .inl (cJ, 5, .inr (.inl mf))), (aS, .inl (cJ, 5, .inr (.inl ms))), (aT, .inl (cJ, 4, .inr (.inl (vp_updL ((st1 (st1 (stF u (sgF (areaF mf ms i j k) * areaF mf ms i j k)) i (sgF (areaF mf ms i j k) * areaF mf ms 4 j k)) j (sgF (areaF mf ms i j k) * areaF mf ms i 4 k)).1) k ((sgF (areaF mf ms i j k)) * (areaF mf ms i j 4)))))), (aB, .inl (cJ, 4, .inr (.inl ((st1 (st1 (stF u (sgF (areaF mf ms i j k) * areaF mf ms i j k)) i (sgF (areaF mf ms i j k) * areaF mf ms 4 j k)) j (sgF (areaF mf ms i j k) * areaF mf ms i 4 k)).2.2.1))))] H := hP
      have hD : va_D A [(h, .inr (1, [.ref aL, .int (nI n), .ref aF, .ref aS, .ref aT, .long ((st1 (st1 (stF u (sgF (areaF mf ms i j k) * areaF mf ms i j k)) i (sgF (areaF mf ms i j k) * areaF mf ms 4 j k)) j (sgF (areaF mf ms i j k) * areaF mf ms i 4 k)).2.1), .ref aB, .long ((st1 (st1 (stF u (sgF (areaF mf ms i j k) * areaF mf ms i j k)) i (sgF (areaF mf ms i j k) * areaF mf ms 4 j k)) j (sgF (areaF mf ms i j k) * areaF mf ms i 4 k)).2.2.2.1), .int (zI (st1 (st1 (stF u (sgF (areaF mf ms i j k) * areaF mf ms i j k)) i (sgF (areaF mf ms i j k) * areaF mf ms 4 j k)) j (sgF (areaF mf ms i j k) * areaF mf ms i 4 k)).2.2.2.2)])), (aL, .inl (cI, 4, .inl ml)), (aF, .inl (cJ, 5, .inr (.inl mf))), (aS, .inl (cJ, 5, .inr (.inl ms))), (aT, .inl (cJ, 4, .inr (.inl (vp_updL ((st1 (st1 (stF u (sgF (areaF mf ms i j k) * areaF mf ms i j k)) i (sgF (areaF mf ms i j k) * areaF mf ms 4 j k)) j (sgF (areaF mf ms i j k) * areaF mf ms i 4 k)).1) k ((sgF (areaF mf ms i j k)) * (areaF mf ms i j 4)))))), (aB, .inl (cJ, 4, .inr (.inl ((st1 (st1 (stF u (sgF (areaF mf ms i j k) * areaF mf ms i j k)) i (sgF (areaF mf ms i j k) * areaF mf ms 4 j k)) j (sgF (areaF mf ms i j k) * areaF mf ms i 4 k)).2.2.1))))] := hD
      have hP : va_P (dC, dI) vwCl [(h, .inr (1, [.ref aL, .int (nI n), .ref aF, .ref aS, .ref aT, .long ((st1 (st1 (st1 (stF u (sgF (areaF mf ms i j k) * areaF mf ms i j k)) i (sgF (areaF mf ms i j k) * areaF mf ms 4 j k)) j (sgF (areaF mf ms i j k) * areaF mf ms i 4 k)) k (sgF (areaF mf ms i j k) * areaF mf ms i j 4)).2.1), .ref aB, .long ((st1 (st1 (st1 (stF u (sgF (areaF mf ms i j k) * areaF mf ms i j k)) i (sgF (areaF mf ms i j k) * areaF mf ms 4 j k)) j (sgF (areaF mf ms i j k) * areaF mf ms i 4 k)) k (sgF (areaF mf ms i j k) * areaF mf ms i j 4)).2.2.2.1), .int (zI ((st1 (st1 (st1 (stF u (sgF (areaF mf ms i j k) * areaF mf ms i j k)) i (sgF (areaF mf ms i j k) * areaF mf ms 4 j k)) j (sgF (areaF mf ms i j k) * areaF mf ms i 4 k)) k (sgF (areaF mf ms i j k) * areaF mf ms i j 4)).2.2.2.2))])), (aL, .inl (cI, 4, .inl ml)), (aF, .inl (cJ, 5, .inr (.inl mf))), (aS, .inl (cJ, 5, .inr (.inl ms))), (aT, .inl (cJ, 4, .inr (.inl ((st1 (st1 (st1 (stF u (sgF (areaF mf ms i j k) * areaF mf ms i j k)) i (sgF (areaF mf ms i j k) * areaF mf ms 4 j k)) j (sgF (areaF mf ms i j k) * areaF mf ms i 4 k)) k (sgF (areaF mf ms i j k) * areaF mf ms i j 4)).1)))), (aB, .inl (cJ, 4, .inr (.inl ((st1 (st1 (st1 (stF u (sgF (areaF mf ms i j k) * areaF mf ms i j k)) i (sgF (areaF mf ms i j k) * areaF mf ms 4 j k)) j (sgF (areaF mf ms i j k) * areaF mf ms i 4 k)) k (sgF (areaF mf ms i j k) * areaF mf ms i j 4)).2.2.1))))] H := hP
      have hD : va_D A [(h, .inr (1, [.ref aL, .int (nI n), .ref aF, .ref aS, .ref aT, .long ((st1 (st1 (st1 (stF u (sgF (areaF mf ms i j k) * areaF mf ms i j k)) i (sgF (areaF mf ms i j k) * areaF mf ms 4 j k)) j (sgF (areaF mf ms i j k) * areaF mf ms i 4 k)) k (sgF (areaF mf ms i j k) * areaF mf ms i j 4)).2.1), .ref aB, .long ((st1 (st1 (st1 (stF u (sgF (areaF mf ms i j k) * areaF mf ms i j k)) i (sgF (areaF mf ms i j k) * areaF mf ms 4 j k)) j (sgF (areaF mf ms i j k) * areaF mf ms i 4 k)) k (sgF (areaF mf ms i j k) * areaF mf ms i j 4)).2.2.2.1), .int (zI ((st1 (st1 (st1 (stF u (sgF (areaF mf ms i j k) * areaF mf ms i j k)) i (sgF (areaF mf ms i j k) * areaF mf ms 4 j k)) j (sgF (areaF mf ms i j k) * areaF mf ms i 4 k)) k (sgF (areaF mf ms i j k) * areaF mf ms i j 4)).2.2.2.2))])), (aL, .inl (cI, 4, .inl ml)), (aF, .inl (cJ, 5, .inr (.inl mf))), (aS, .inl (cJ, 5, .inr (.inl ms))), (aT, .inl (cJ, 4, .inr (.inl ((st1 (st1 (st1 (stF u (sgF (areaF mf ms i j k) * areaF mf ms i j k)) i (sgF (areaF mf ms i j k) * areaF mf ms 4 j k)) j (sgF (areaF mf ms i j k) * areaF mf ms i 4 k)) k (sgF (areaF mf ms i j k) * areaF mf ms i j 4)).1)))), (aB, .inl (cJ, 4, .inr (.inl ((st1 (st1 (st1 (stF u (sgF (areaF mf ms i j k) * areaF mf ms i j k)) i (sgF (areaF mf ms i j k) * areaF mf ms 4 j k)) j (sgF (areaF mf ms i j k) * areaF mf ms i 4 k)) k (sgF (areaF mf ms i j k) * areaF mf ms i j 4)).2.2.1))))] := hD
      refine lv_aload_n hx hb d_M_tryThree_90 rfl (lv_at hl 1 rfl) ?_
      refine k_callv (wr := []) (va_runV (As := []) (rest := []) ⟨hx, hb, hml, hown, hts⟩ (k_M_keepIfBetter l dC dI cJ cI cZ _ h aL aF aS aT aB ml n mf ms (st1 (st1 (st1 (stF u (sgF (areaF mf ms i j k) * areaF mf ms i j k)) i (sgF (areaF mf ms i j k) * areaF mf ms 4 j k)) j (sgF (areaF mf ms i j k) * areaF mf ms i 4 k)) k (sgF (areaF mf ms i j k) * areaF mf ms i j 4)) (by omega)) (k_cw (y := y_M_keepIfBetter) (own := R_M) hts wd_129 wd_26 wd_127 wd_125 wd_126 hd_M_keepIfBetter ⟨Nat.le_of_ble_eq_true rfl, Nat.le_of_ble_eq_true rfl⟩) (k_preV (ci := 1) (q0 := 0) hP hD hK [0, 1, 2, 3, 4, 5] rfl (by decide) rfl rfl) rfl rfl hl.1 rfl (lv_room (Nat.le_of_ble_eq_true rfl)) d_M_tryThree_91 ⟨Nat.le_of_ble_eq_true rfl, Nat.le_of_ble_eq_true rfl⟩) hP hD hS hA [0, 1, 2, 3, 4, 5] [] rfl rfl (by decide) (by decide) (fun uu H locs hpo hP hD hS => ?_)
      have hP : va_P (dC, dI) vwCl [(h, .inr (1, [.ref aL, .int (nI n), .ref aF, .ref aS, .ref aT, .long ((keepF n (st1 (st1 (st1 (stF u (sgF (areaF mf ms i j k) * areaF mf ms i j k)) i (sgF (areaF mf ms i j k) * areaF mf ms 4 j k)) j (sgF (areaF mf ms i j k) * areaF mf ms i 4 k)) k (sgF (areaF mf ms i j k) * areaF mf ms i j 4))).2.1), .ref aB, .long ((keepF n (st1 (st1 (st1 (stF u (sgF (areaF mf ms i j k) * areaF mf ms i j k)) i (sgF (areaF mf ms i j k) * areaF mf ms 4 j k)) j (sgF (areaF mf ms i j k) * areaF mf ms i 4 k)) k (sgF (areaF mf ms i j k) * areaF mf ms i j 4))).2.2.2.1), .int (zI ((keepF n (st1 (st1 (st1 (stF u (sgF (areaF mf ms i j k) * areaF mf ms i j k)) i (sgF (areaF mf ms i j k) * areaF mf ms 4 j k)) j (sgF (areaF mf ms i j k) * areaF mf ms i 4 k)) k (sgF (areaF mf ms i j k) * areaF mf ms i j 4))).2.2.2.2))])), (aL, .inl (cI, 4, .inl ml)), (aF, .inl (cJ, 5, .inr (.inl mf))), (aS, .inl (cJ, 5, .inr (.inl ms))), (aT, .inl (cJ, 4, .inr (.inl ((keepF n (st1 (st1 (st1 (stF u (sgF (areaF mf ms i j k) * areaF mf ms i j k)) i (sgF (areaF mf ms i j k) * areaF mf ms 4 j k)) j (sgF (areaF mf ms i j k) * areaF mf ms i 4 k)) k (sgF (areaF mf ms i j k) * areaF mf ms i j 4))).1)))), (aB, .inl (cJ, 4, .inr (.inl ((keepF n (st1 (st1 (st1 (stF u (sgF (areaF mf ms i j k) * areaF mf ms i j k)) i (sgF (areaF mf ms i j k) * areaF mf ms 4 j k)) j (sgF (areaF mf ms i j k) * areaF mf ms i 4 k)) k (sgF (areaF mf ms i j k) * areaF mf ms i j 4))).2.2.1))))] H := hP
      have hD : va_D A [(h, .inr (1, [.ref aL, .int (nI n), .ref aF, .ref aS, .ref aT, .long ((keepF n (st1 (st1 (st1 (stF u (sgF (areaF mf ms i j k) * areaF mf ms i j k)) i (sgF (areaF mf ms i j k) * areaF mf ms 4 j k)) j (sgF (areaF mf ms i j k) * areaF mf ms i 4 k)) k (sgF (areaF mf ms i j k) * areaF mf ms i j 4))).2.1), .ref aB, .long ((keepF n (st1 (st1 (st1 (stF u (sgF (areaF mf ms i j k) * areaF mf ms i j k)) i (sgF (areaF mf ms i j k) * areaF mf ms 4 j k)) j (sgF (areaF mf ms i j k) * areaF mf ms i 4 k)) k (sgF (areaF mf ms i j k) * areaF mf ms i j 4))).2.2.2.1), .int (zI ((keepF n (st1 (st1 (st1 (stF u (sgF (areaF mf ms i j k) * areaF mf ms i j k)) i (sgF (areaF mf ms i j k) * areaF mf ms 4 j k)) j (sgF (areaF mf ms i j k) * areaF mf ms i 4 k)) k (sgF (areaF mf ms i j k) * areaF mf ms i j 4))).2.2.2.2))])), (aL, .inl (cI, 4, .inl ml)), (aF, .inl (cJ, 5, .inr (.inl mf))), (aS, .inl (cJ, 5, .inr (.inl ms))), (aT, .inl (cJ, 4, .inr (.inl ((keepF n (st1 (st1 (st1 (stF u (sgF (areaF mf ms i j k) * areaF mf ms i j k)) i (sgF (areaF mf ms i j k) * areaF mf ms 4 j k)) j (sgF (areaF mf ms i j k) * areaF mf ms i 4 k)) k (sgF (areaF mf ms i j k) * areaF mf ms i j 4))).1)))), (aB, .inl (cJ, 4, .inr (.inl ((keepF n (st1 (st1 (st1 (stF u (sgF (areaF mf ms i j k) * areaF mf ms i j k)) i (sgF (areaF mf ms i j k) * areaF mf ms 4 j k)) j (sgF (areaF mf ms i j k) * areaF mf ms i 4 k)) k (sgF (areaF mf ms i j k) * areaF mf ms i j 4))).2.2.1))))] := hD
      have hq9 : t3F mf ms n i j k u = keepF n (st1 (st1 (st1 (stF u (sgF (areaF mf ms i j k) * areaF mf ms i j k)) i (sgF (areaF mf ms i j k) * areaF mf ms 4 j k)) j (sgF (areaF mf ms i j k) * areaF mf ms i 4 k)) k (sgF (areaF mf ms i j k) * areaF mf ms i j 4)) := by unfold t3F; rw [if_neg c_12]
      have hP : va_P (dC, dI) vwCl [(h, .inr (1, [.ref aL, .int (nI n), .ref aF, .ref aS, .ref aT, .long ((t3F mf ms n i j k u).2.1), .ref aB, .long ((t3F mf ms n i j k u).2.2.2.1), .int (zI ((t3F mf ms n i j k u).2.2.2.2))])), (aL, .inl (cI, 4, .inl ml)), (aF, .inl (cJ, 5, .inr (.inl mf))), (aS, .inl (cJ, 5, .inr (.inl ms))), (aT, .inl (cJ, 4, .inr (.inl ((t3F mf ms n i j k u).1)))), (aB, .inl (cJ, 4, .inr (.inl ((t3F mf ms n i j k u).2.2.1))))] H := by rw [hq9]; exact hP
      have hD : va_D A [(h, .inr (1, [.ref aL, .int (nI n), .ref aF, .ref aS, .ref aT, .long ((t3F mf ms n i j k u).2.1), .ref aB, .long ((t3F mf ms n i j k u).2.2.2.1), .int (zI ((t3F mf ms n i j k u).2.2.2.2))])), (aL, .inl (cI, 4, .inl ml)), (aF, .inl (cJ, 5, .inr (.inl mf))), (aS, .inl (cJ, 5, .inr (.inl ms))), (aT, .inl (cJ, 4, .inr (.inl ((t3F mf ms n i j k u).1)))), (aB, .inl (cJ, 4, .inr (.inl ((t3F mf ms n i j k u).2.2.1))))] := by rw [hq9]; exact hD
      exact k_vret hx hb hr hlocks () trivial hP hD hK hS [0, 1, 2, 3, 4, 5] (by decide) rfl d_M_tryThree_94
    refine lv_lload hx hb d_M_tryThree_17 (lv_at hl 0 rfl) ?_
    refine lv_lconst (v := 0) hx hb d_M_tryThree_19 (by decide) ?_
    refine k_jge (tgt := 30) hx hb d_M_tryThree_20 d_M_tryThree_21 (by decide) (fun c_20 => ?_) (fun c_20 => ?_)
    · refine lv_lconst (v := 1) hx hb d_M_tryThree_30 (by decide) ?_
      refine k_tol (y := sgF (areaF mf ms i j k)) (by unfold sgF; rw [if_neg (Int64.not_lt.mpr c_20)]) ?_
      exact cut_31  _ _ _ hP hD hS (lv_sub hl [1, 2, 3, 4, 0] rfl)
    · refine lv_ldc2 (v := (-1)) hx hb hown (hts _ wd_148) d_M_tryThree_24 ?_
      refine k_tol (y := sgF (areaF mf ms i j k)) (by unfold sgF; rw [if_pos c_20]) ?_
      refine lv_goto (tgt := 31) hx hb d_M_tryThree_27 (by decide) ?_
      exact cut_31  _ _ _ hP hD hS (lv_sub hl [1, 2, 3, 4, 0] rfl)
  · have hq9 : t3F mf ms n i j k u = u := by unfold t3F; rw [if_pos c_12]
    have hP : va_P (dC, dI) vwCl [(h, .inr (1, [.ref aL, .int (nI n), .ref aF, .ref aS, .ref aT, .long ((t3F mf ms n i j k u).2.1), .ref aB, .long ((t3F mf ms n i j k u).2.2.2.1), .int (zI ((t3F mf ms n i j k u).2.2.2.2))])), (aL, .inl (cI, 4, .inl ml)), (aF, .inl (cJ, 5, .inr (.inl mf))), (aS, .inl (cJ, 5, .inr (.inl ms))), (aT, .inl (cJ, 4, .inr (.inl ((t3F mf ms n i j k u).1)))), (aB, .inl (cJ, 4, .inr (.inl ((t3F mf ms n i j k u).2.2.1))))] H := by rw [hq9]; exact hP
    have hD : va_D A [(h, .inr (1, [.ref aL, .int (nI n), .ref aF, .ref aS, .ref aT, .long ((t3F mf ms n i j k u).2.1), .ref aB, .long ((t3F mf ms n i j k u).2.2.2.1), .int (zI ((t3F mf ms n i j k u).2.2.2.2))])), (aL, .inl (cI, 4, .inl ml)), (aF, .inl (cJ, 5, .inr (.inl mf))), (aS, .inl (cJ, 5, .inr (.inl ms))), (aT, .inl (cJ, 4, .inr (.inl ((t3F mf ms n i j k u).1)))), (aB, .inl (cJ, 4, .inr (.inl ((t3F mf ms n i j k u).2.2.1))))] := by rw [hq9]; exact hD
    exact k_vret hx hb hr hlocks () trivial hP hD hK hS [0, 1, 2, 3, 4, 5] (by decide) rfl d_M_tryThree_16
/-- M_search -/
abbrev q_M_search (dC : Nat → ClassId) (dI : Nat → Nat → Nat) (cJ cI cZ : ClassId) (h : Nat) (aL : Nat) (aF : Nat) (aS : Nat) (aT : Nat) (aB : Nat) (ml : Nat → Int32) (n : Nat) (mf : Nat → Int64) (ms : Nat → Int64) (u : MixS) (f : Int64) (g : Int64) (A : Nat → Prop) : Array Value → State → Outcome → State → Prop := va_Qi (fun (r : Int32) (_ : Unit) => r = zI ((s1F (vp_updL mf 4 f) (vp_updL ms 4 g) n n 0 u).2.2.2.2)) (kB (dC, dI) vwCl [(cJ, .long), (cI, .int), (cZ, .boolean)] A (fun (_ : Unit) => [(h, .inr (1, [.ref aL, .int (nI n), .ref aF, .ref aS, .ref aT, .long ((s1F (vp_updL mf 4 f) (vp_updL ms 4 g) n n 0 u).2.1), .ref aB, .long ((s1F (vp_updL mf 4 f) (vp_updL ms 4 g) n n 0 u).2.2.2.1), .int (zI ((s1F (vp_updL mf 4 f) (vp_updL ms 4 g) n n 0 u).2.2.2.2))])), (aL, .inl (cI, 4, .inl ml)), (aF, .inl (cJ, 5, .inr (.inl (vp_updL mf 4 f)))), (aS, .inl (cJ, 5, .inr (.inl (vp_updL ms 4 g)))), (aT, .inl (cJ, 4, .inr (.inl ((s1F (vp_updL mf 4 f) (vp_updL ms 4 g) n n 0 u).1)))), (aB, .inl (cJ, 4, .inr (.inl ((s1F (vp_updL mf 4 f) (vp_updL ms 4 g) n n 0 u).2.2.1))))])) A
set_option maxHeartbeats 4000000 in
set_option maxRecDepth 100000 in
theorem k_M_search (l : Launch) (dC : Nat → ClassId) (dI : Nat → Nat → Nat) (cJ cI cZ : ClassId) (sz : Nat) (h : Nat) (aL : Nat) (aF : Nat) (aS : Nat) (aT : Nat) (aB : Nat) (ml : Nat → Int32) (n : Nat) (mf : Nat → Int64) (ms : Nat → Int64) (u : MixS) (f : Int64) (g : Int64) (hn : n ≤ 4) : Met l y_M_search w_M_search { frames := 3, cells := 0, slots := 0, locals := 73 } (kPc (dC, dI) vwCl [(cJ, .long), (cI, .int), (cZ, .boolean)] [(h, .inr (1, [.ref aL, .int (nI n), .ref aF, .ref aS, .ref aT, .long u.2.1, .ref aB, .long u.2.2.2.1, .int (zI u.2.2.2.2)])), (aL, .inl (cI, 4, .inl ml)), (aF, .inl (cJ, 5, .inr (.inl mf))), (aS, .inl (cJ, 5, .inr (.inl ms))), (aT, .inl (cJ, 4, .inr (.inl u.1))), (aB, .inl (cJ, 4, .inr (.inl u.2.2.1)))] sz [.ref h, .long f, .long g]) (q_M_search dC dI cJ cI cZ h aL aF aS aT aB ml n mf ms u f g (va_A [(h, .inr (1, [.ref aL, .int (nI n), .ref aF, .ref aS, .ref aT, .long u.2.1, .ref aB, .long u.2.2.2.1, .int (zI u.2.2.2.2)])), (aL, .inl (cI, 4, .inl ml)), (aF, .inl (cJ, 5, .inr (.inl mf))), (aS, .inl (cJ, 5, .inr (.inl ms))), (aT, .inl (cJ, 4, .inr (.inl u.1))), (aB, .inl (cJ, 4, .inr (.inl u.2.2.1)))] sz)) 0 0 (va_A [(h, .inr (1, [.ref aL, .int (nI n), .ref aF, .ref aS, .ref aT, .long u.2.1, .ref aB, .long u.2.2.2.1, .int (zI u.2.2.2.2)])), (aL, .inl (cI, 4, .inl ml)), (aF, .inl (cJ, 5, .inr (.inl mf))), (aS, .inl (cJ, 5, .inr (.inl ms))), (aT, .inl (cJ, 4, .inr (.inl u.1))), (aB, .inl (cJ, 4, .inr (.inl u.2.2.1)))] sz) := by
  refine k_met (q_M_search dC dI cJ cI cZ h aL aF aS aT aB ml n mf ms u f g) (by decide +kernel) rfl (Nat.le_of_ble_eq_true rfl) ?_
  intro p e s m below meth c A hx hb hr hml hown hts hlocks hin hA H hP hK hD hS ls hl
  have hl : lv_has ls 8 [(0, .ref h), (1, .long f), (3, .long g)] := hl
  have hown : s.vm.findClass R_M = some m.cls := hown
  have hts : ∀ wW ∈ kT, wW.before [.ref h, .long f, .long g].toArray s = true := fun wW hW => hts wW (List.mem_cons_of_mem _ hW)
  refine lv_aload_n hx hb d_M_search_0 rfl (lv_at hl 0 rfl) ?_
  refine va_get (D := (dC, dI)) (ci := 1) (v := .ref aF) (C := R_M) (T := T_M) (N := 9) hx hb hts iT_M hown hK hP 0 rfl rfl 2 (by decide) (hts _ wd_38) (fun _ h9 => h9) rfl d_M_search_1 ?_
  refine lv_iconst (v := nI 4) hx hb d_M_search_4 (by decide) ?_
  refine lv_lload_n hx hb d_M_search_5 rfl (lv_at hl 1 rfl) ?_
  refine k_last (j := 4) hx hb hK hP hD hS 2 0 rfl rfl (by omega) (by decide) d_M_search_6 (fun H locs hP hD hS => ?_)
  have hP : va_P (dC, dI) vwCl [(h, .inr (1, [.ref aL, .int (nI n), .ref aF, .ref aS, .ref aT, .long u.2.1, .ref aB, .long u.2.2.2.1, .int (zI u.2.2.2.2)])), (aL, .inl (cI, 4, .inl ml)), (aF, .inl (cJ, 5, .inr (.inl (vp_updL mf 4 f)))), (aS, .inl (cJ, 5, .inr (.inl ms))), (aT, .inl (cJ, 4, .inr (.inl u.1))), (aB, .inl (cJ, 4, .inr (.inl u.2.2.1)))] H := hP
  have hD : va_D A [(h, .inr (1, [.ref aL, .int (nI n), .ref aF, .ref aS, .ref aT, .long u.2.1, .ref aB, .long u.2.2.2.1, .int (zI u.2.2.2.2)])), (aL, .inl (cI, 4, .inl ml)), (aF, .inl (cJ, 5, .inr (.inl (vp_updL mf 4 f)))), (aS, .inl (cJ, 5, .inr (.inl ms))), (aT, .inl (cJ, 4, .inr (.inl u.1))), (aB, .inl (cJ, 4, .inr (.inl u.2.2.1)))] := hD
  refine lv_aload_n hx hb d_M_search_7 rfl (lv_at hl 0 rfl) ?_
  refine va_get (D := (dC, dI)) (ci := 1) (v := .ref aS) (C := R_M) (T := T_M) (N := 9) hx hb hts iT_M hown hK hP 0 rfl rfl 3 (by decide) (hts _ wd_39) (fun _ h9 => h9) rfl d_M_search_8 ?_
  refine lv_iconst (v := nI 4) hx hb d_M_search_11 (by decide) ?_
  refine lv_lload_n hx hb d_M_search_12 rfl (lv_at hl 2 rfl) ?_
  refine k_last (j := 4) hx hb hK hP hD hS 3 0 rfl rfl (by omega) (by decide) d_M_search_13 (fun H locs hP hD hS => ?_)
  have hP : va_P (dC, dI) vwCl [(h, .inr (1, [.ref aL, .int (nI n), .ref aF, .ref aS, .ref aT, .long u.2.1, .ref aB, .long u.2.2.2.1, .int (zI u.2.2.2.2)])), (aL, .inl (cI, 4, .inl ml)), (aF, .inl (cJ, 5, .inr (.inl (vp_updL mf 4 f)))), (aS, .inl (cJ, 5, .inr (.inl (vp_updL ms 4 g)))), (aT, .inl (cJ, 4, .inr (.inl u.1))), (aB, .inl (cJ, 4, .inr (.inl u.2.2.1)))] H := hP
  have hD : va_D A [(h, .inr (1, [.ref aL, .int (nI n), .ref aF, .ref aS, .ref aT, .long u.2.1, .ref aB, .long u.2.2.2.1, .int (zI u.2.2.2.2)])), (aL, .inl (cI, 4, .inl ml)), (aF, .inl (cJ, 5, .inr (.inl (vp_updL mf 4 f)))), (aS, .inl (cJ, 5, .inr (.inl (vp_updL ms 4 g)))), (aT, .inl (cJ, 4, .inr (.inl u.1))), (aB, .inl (cJ, 4, .inr (.inl u.2.2.1)))] := hD
  refine lv_iconst (v := nI 0) hx hb d_M_search_14 (by decide) ?_
  refine lv_istore (lv' := [(5, .int (nI 0)), (0, .ref h), (1, .long f), (3, .long g)]) hx hb d_M_search_15 hl (by decide) rfl (fun ls hl => ?_)
  have loop_17 : ∀ (fu_17 : Nat) (i : Nat) (v : MixS) (hi : i ≤ n) (hv : s1F (vp_updL mf 4 f) (vp_updL ms 4 g) n (n - i) i v = s1F (vp_updL mf 4 f) (vp_updL ms 4 g) n n 0 u) (hfu_17 : n + 1 ≤ i + fu_17) (H : Heap) (locs : List Loc) (ls : Array Slot), va_P (dC, dI) vwCl [(h, .inr (1, [.ref aL, .int (nI n), .ref aF, .ref aS, .ref aT, .long v.2.1, .ref aB, .long v.2.2.2.1, .int (zI v.2.2.2.2)])), (aL, .inl (cI, 4, .inl ml)), (aF, .inl (cJ, 5, .inr (.inl (vp_updL mf 4 f)))), (aS, .inl (cJ, 5, .inr (.inl (vp_updL ms 4 g)))), (aT, .inl (cJ, 4, .inr (.inl v.1))), (aB, .inl (cJ, 4, .inr (.inl v.2.2.1)))] H → va_D A [(h, .inr (1, [.ref aL, .int (nI n), .ref aF, .ref aS, .ref aT, .long v.2.1, .ref aB, .long v.2.2.2.1, .int (zI v.2.2.2.2)])), (aL, .inl (cI, 4, .inl ml)), (aF, .inl (cJ, 5, .inr (.inl (vp_updL mf 4 f)))), (aS, .inl (cJ, 5, .inr (.inl (vp_updL ms 4 g)))), (aT, .inl (cJ, 4, .inr (.inl v.1))), (aB, .inl (cJ, 4, .inr (.inl v.2.2.1)))] → va_S A s.heap H locs → lv_has ls 8 [(0, .ref h), (1, .long f), (3, .long g), (5, .int (nI i))] → W p l e { frames := 3, cells := 0, slots := 0, locals := 73 } s m [.ref h, .long f, .long g].toArray below meth c H locs 0 0 (MQ below (q_M_search dC dI cJ cI cZ h aL aF aS aT aB ml n mf ms u f g A) [.ref h, .long f, .long g].toArray s 0 0 A) (F0 m 17 ls []) := by
    intro fu_17
    induction fu_17 with
    | zero =>
      intro i v hi hv hfu_17 H locs ls hP hD hS hl
      exact absurd hfu_17 (by omega)
    | succ fu_17 ih_17 =>
      intro i v hi hv hfu_17 H locs ls hP hD hS hl
      refine lv_iload hx hb d_M_search_17 (lv_at hl 3 rfl) ?_
      refine lv_aload_n hx hb d_M_search_19 rfl (lv_at hl 0 rfl) ?_
      refine va_get (D := (dC, dI)) (ci := 1) (v := .int (nI n)) (C := R_M) (T := T_M) (N := 9) hx hb hts iT_M hown hK hP 0 rfl rfl 1 (by decide) (hts _ wd_37) (fun _ h9 => h9) rfl d_M_search_20 ?_
      refine k_nge (tgt := 98) hx hb d_M_search_23 (by decide) (by omega) (by omega) (fun c_23 => ?_) (fun c_23 => ?_)
      · have hvE : v = s1F (vp_updL mf 4 f) (vp_updL ms 4 g) n n 0 u := by rw [← hv, s1F_end c_23]
        refine lv_aload_n hx hb d_M_search_98 rfl (lv_at hl 0 rfl) ?_
        refine va_get (D := (dC, dI)) (ci := 1) (v := .int (zI v.2.2.2.2)) (C := R_M) (T := T_M) (N := 9) hx hb hts iT_M hown hK hP 0 rfl rfl 8 (by decide) (hts _ wd_44) (fun _ h9 => h9) rfl d_M_search_99 ?_
        have hq9 : s1F (vp_updL mf 4 f) (vp_updL ms 4 g) n n 0 u = v := hvE.symm
        have hP : va_P (dC, dI) vwCl [(h, .inr (1, [.ref aL, .int (nI n), .ref aF, .ref aS, .ref aT, .long ((s1F (vp_updL mf 4 f) (vp_updL ms 4 g) n n 0 u).2.1), .ref aB, .long ((s1F (vp_updL mf 4 f) (vp_updL ms 4 g) n n 0 u).2.2.2.1), .int (zI ((s1F (vp_updL mf 4 f) (vp_updL ms 4 g) n n 0 u).2.2.2.2))])), (aL, .inl (cI, 4, .inl ml)), (aF, .inl (cJ, 5, .inr (.inl (vp_updL mf 4 f)))), (aS, .inl (cJ, 5, .inr (.inl (vp_updL ms 4 g)))), (aT, .inl (cJ, 4, .inr (.inl ((s1F (vp_updL mf 4 f) (vp_updL ms 4 g) n n 0 u).1)))), (aB, .inl (cJ, 4, .inr (.inl ((s1F (vp_updL mf 4 f) (vp_updL ms 4 g) n n 0 u).2.2.1))))] H := by rw [hq9]; exact hP
        have hD : va_D A [(h, .inr (1, [.ref aL, .int (nI n), .ref aF, .ref aS, .ref aT, .long ((s1F (vp_updL mf 4 f) (vp_updL ms 4 g) n n 0 u).2.1), .ref aB, .long ((s1F (vp_updL mf 4 f) (vp_updL ms 4 g) n n 0 u).2.2.2.1), .int (zI ((s1F (vp_updL mf 4 f) (vp_updL ms 4 g) n n 0 u).2.2.2.2))])), (aL, .inl (cI, 4, .inl ml)), (aF, .inl (cJ, 5, .inr (.inl (vp_updL mf 4 f)))), (aS, .inl (cJ, 5, .inr (.inl (vp_updL ms 4 g)))), (aT, .inl (cJ, 4, .inr (.inl ((s1F (vp_updL mf 4 f) (vp_updL ms 4 g) n n 0 u).1)))), (aB, .inl (cJ, 4, .inr (.inl ((s1F (vp_updL mf 4 f) (vp_updL ms 4 g) n n 0 u).2.2.1))))] := by rw [hq9]; exact hD
        exact k_zret (v := zI v.2.2.2.2) hx hb hr hlocks (k_zn _) () (by rw [hvE]) hP hD hK hS [0, 1, 2, 3, 4, 5] (by decide) rfl d_M_search_102
      · refine lv_aload_n hx hb d_M_search_26 rfl (lv_at hl 0 rfl) ?_
        refine lv_iload hx hb d_M_search_27 (lv_at hl 3 rfl) ?_
        refine k_callv (wr := []) (va_runV (As := [.int (nI i)]) (rest := []) ⟨hx, hb, hml, hown, hts⟩ (k_M_tryOne l dC dI cJ cI cZ _ h aL aF aS aT aB ml n (vp_updL mf 4 f) (vp_updL ms 4 g) v i (by omega) (by omega)) (k_cw (y := y_M_tryOne) (own := R_M) hts wd_121 wd_26 wd_114 wd_112 wd_113 hd_M_tryOne ⟨Nat.le_of_ble_eq_true rfl, Nat.le_of_ble_eq_true rfl⟩) (k_preV (ci := 1) (q0 := 0) hP hD hK [0, 1, 2, 3, 4, 5] rfl (by decide) rfl rfl) rfl rfl hl.1 rfl (lv_room (Nat.le_of_ble_eq_true rfl)) d_M_search_29 ⟨Nat.le_of_ble_eq_true rfl, Nat.le_of_ble_eq_true rfl⟩) hP hD hS hA [0, 1, 2, 3, 4, 5] [] rfl rfl (by decide) (by decide) (fun uu H locs hpo hP hD hS => ?_)
        have hP : va_P (dC, dI) vwCl [(h, .inr (1, [.ref aL, .int (nI n), .ref aF, .ref aS, .ref aT, .long ((t1F (vp_updL mf 4 f) (vp_updL ms 4 g) n i v).2.1), .ref aB, .long ((t1F (vp_updL mf 4 f) (vp_updL ms 4 g) n i v).2.2.2.1), .int (zI ((t1F (vp_updL mf 4 f) (vp_updL ms 4 g) n i v).2.2.2.2))])), (aL, .inl (cI, 4, .inl ml)), (aF, .inl (cJ, 5, .inr (.inl (vp_updL mf 4 f)))), (aS, .inl (cJ, 5, .inr (.inl (vp_updL ms 4 g)))), (aT, .inl (cJ, 4, .inr (.inl ((t1F (vp_updL mf 4 f) (vp_updL ms 4 g) n i v).1)))), (aB, .inl (cJ, 4, .inr (.inl ((t1F (vp_updL mf 4 f) (vp_updL ms 4 g) n i v).2.2.1))))] H := hP
        have hD : va_D A [(h, .inr (1, [.ref aL, .int (nI n), .ref aF, .ref aS, .ref aT, .long ((t1F (vp_updL mf 4 f) (vp_updL ms 4 g) n i v).2.1), .ref aB, .long ((t1F (vp_updL mf 4 f) (vp_updL ms 4 g) n i v).2.2.2.1), .int (zI ((t1F (vp_updL mf 4 f) (vp_updL ms 4 g) n i v).2.2.2.2))])), (aL, .inl (cI, 4, .inl ml)), (aF, .inl (cJ, 5, .inr (.inl (vp_updL mf 4 f)))), (aS, .inl (cJ, 5, .inr (.inl (vp_updL ms 4 g)))), (aT, .inl (cJ, 4, .inr (.inl ((t1F (vp_updL mf 4 f) (vp_updL ms 4 g) n i v).1)))), (aB, .inl (cJ, 4, .inr (.inl ((t1F (vp_updL mf 4 f) (vp_updL ms 4 g) n i v).2.2.1))))] := hD
        refine lv_iload hx hb d_M_search_32 (lv_at hl 3 rfl) ?_
        refine lv_iconst (v := nI 1) hx hb d_M_search_34 (by decide) ?_
        refine lv_iadd hx hb d_M_search_35 ?_
        refine k_toi (nI_add i 1) ?_
        refine lv_istore (lv' := [(6, .int (nI (i + 1))), (0, .ref h), (1, .long f), (3, .long g), (5, .int (nI i))]) hx hb d_M_search_36 hl (by decide) rfl (fun ls hl => ?_)
        have loop_38 : ∀ (fu_38 : Nat) (j : Nat) (v : MixS) (hj : j ≤ n) (hj2 : i < j) (hv2 : s1F (vp_updL mf 4 f) (vp_updL ms 4 g) n (n - (i + 1)) (i + 1) (s2F (vp_updL mf 4 f) (vp_updL ms 4 g) n i (n - j) j v) = s1F (vp_updL mf 4 f) (vp_updL ms 4 g) n n 0 u) (hfu_38 : n + 1 ≤ j + fu_38) (H : Heap) (locs : List Loc) (ls : Array Slot), va_P (dC, dI) vwCl [(h, .inr (1, [.ref aL, .int (nI n), .ref aF, .ref aS, .ref aT, .long v.2.1, .ref aB, .long v.2.2.2.1, .int (zI v.2.2.2.2)])), (aL, .inl (cI, 4, .inl ml)), (aF, .inl (cJ, 5, .inr (.inl (vp_updL mf 4 f)))), (aS, .inl (cJ, 5, .inr (.inl (vp_updL ms 4 g)))), (aT, .inl (cJ, 4, .inr (.inl v.1))), (aB, .inl (cJ, 4, .inr (.inl v.2.2.1)))] H → va_D A [(h, .inr (1, [.ref aL, .int (nI n), .ref aF, .ref aS, .ref aT, .long v.2.1, .ref aB, .long v.2.2.2.1, .int (zI v.2.2.2.2)])), (aL, .inl (cI, 4, .inl ml)), (aF, .inl (cJ, 5, .inr (.inl (vp_updL mf 4 f)))), (aS, .inl (cJ, 5, .inr (.inl (vp_updL ms 4 g)))), (aT, .inl (cJ, 4, .inr (.inl v.1))), (aB, .inl (cJ, 4, .inr (.inl v.2.2.1)))] → va_S A s.heap H locs → lv_has ls 8 [(0, .ref h), (1, .long f), (3, .long g), (5, .int (nI i)), (6, .int (nI j))] → W p l e { frames := 3, cells := 0, slots := 0, locals := 73 } s m [.ref h, .long f, .long g].toArray below meth c H locs 0 0 (MQ below (q_M_search dC dI cJ cI cZ h aL aF aS aT aB ml n mf ms u f g A) [.ref h, .long f, .long g].toArray s 0 0 A) (F0 m 38 ls []) := by
          intro fu_38
          induction fu_38 with
          | zero =>
            intro j v hj hj2 hv2 hfu_38 H locs ls hP hD hS hl
            exact absurd hfu_38 (by omega)
          | succ fu_38 ih_38 =>
            intro j v hj hj2 hv2 hfu_38 H locs ls hP hD hS hl
            refine lv_iload hx hb d_M_search_38 (lv_at hl 4 rfl) ?_
            refine lv_aload_n hx hb d_M_search_40 rfl (lv_at hl 0 rfl) ?_
            refine va_get (D := (dC, dI)) (ci := 1) (v := .int (nI n)) (C := R_M) (T := T_M) (N := 9) hx hb hts iT_M hown hK hP 0 rfl rfl 1 (by decide) (hts _ wd_37) (fun _ h9 => h9) rfl d_M_search_41 ?_
            refine k_nge (tgt := 92) hx hb d_M_search_44 (by decide) (by omega) (by omega) (fun c_44 => ?_) (fun c_44 => ?_)
            · refine lv_iinc (v := nI (i + 1)) (lv' := [(5, .int (nI (i + 1))), (0, .ref h), (1, .long f), (3, .long g), (6, .int (nI j))]) hx hb d_M_search_92 hl (k := 3) rfl (nI_add i 1) (by decide) rfl (fun ls hl => ?_)
              refine lv_goto (tgt := 17) hx hb d_M_search_95 (by decide) ?_
              exact ih_17 (i + 1) v (by omega) (by rw [← hv2, s2F_end (by omega)]) (by omega) _ _ _ hP hD hS (lv_sub hl [1, 2, 3, 0] rfl)
            · refine lv_aload_n hx hb d_M_search_47 rfl (lv_at hl 0 rfl) ?_
              refine lv_iload hx hb d_M_search_48 (lv_at hl 3 rfl) ?_
              refine lv_iload hx hb d_M_search_50 (lv_at hl 4 rfl) ?_
              refine k_callv (wr := []) (va_runV (As := [.int (nI i), .int (nI j)]) (rest := []) ⟨hx, hb, hml, hown, hts⟩ (k_M_tryTwo l dC dI cJ cI cZ _ h aL aF aS aT aB ml n (vp_updL mf 4 f) (vp_updL ms 4 g) v i j (by omega) (by omega) (by omega)) (k_cw (y := y_M_tryTwo) (own := R_M) hts wd_138 wd_26 wd_117 wd_115 wd_116 hd_M_tryTwo ⟨Nat.le_of_ble_eq_true rfl, Nat.le_of_ble_eq_true rfl⟩) (k_preV (ci := 1) (q0 := 0) hP hD hK [0, 1, 2, 3, 4, 5] rfl (by decide) rfl rfl) rfl rfl hl.1 rfl (lv_room (Nat.le_of_ble_eq_true rfl)) d_M_search_52 ⟨Nat.le_of_ble_eq_true rfl, Nat.le_of_ble_eq_true rfl⟩) hP hD hS hA [0, 1, 2, 3, 4, 5] [] rfl rfl (by decide) (by decide) (fun uu H locs hpo hP hD hS => ?_)
              have hP : va_P (dC, dI) vwCl [(h, .inr (1, [.ref aL, .int (nI n), .ref aF, .ref aS, .ref aT, .long ((t2F (vp_updL mf 4 f) (vp_updL ms 4 g) n i j v).2.1), .ref aB, .long ((t2F (vp_updL mf 4 f) (vp_updL ms 4 g) n i j v).2.2.2.1), .int (zI ((t2F (vp_updL mf 4 f) (vp_updL ms 4 g) n i j v).2.2.2.2))])), (aL, .inl (cI, 4, .inl ml)), (aF, .inl (cJ, 5, .inr (.inl (vp_updL mf 4 f)))), (aS, .inl (cJ, 5, .inr (.inl (vp_updL ms 4 g)))), (aT, .inl (cJ, 4, .inr (.inl ((t2F (vp_updL mf 4 f) (vp_updL ms 4 g) n i j v).1)))), (aB, .inl (cJ, 4, .inr (.inl ((t2F (vp_updL mf 4 f) (vp_updL ms 4 g) n i j v).2.2.1))))] H := hP
              have hD : va_D A [(h, .inr (1, [.ref aL, .int (nI n), .ref aF, .ref aS, .ref aT, .long ((t2F (vp_updL mf 4 f) (vp_updL ms 4 g) n i j v).2.1), .ref aB, .long ((t2F (vp_updL mf 4 f) (vp_updL ms 4 g) n i j v).2.2.2.1), .int (zI ((t2F (vp_updL mf 4 f) (vp_updL ms 4 g) n i j v).2.2.2.2))])), (aL, .inl (cI, 4, .inl ml)), (aF, .inl (cJ, 5, .inr (.inl (vp_updL mf 4 f)))), (aS, .inl (cJ, 5, .inr (.inl (vp_updL ms 4 g)))), (aT, .inl (cJ, 4, .inr (.inl ((t2F (vp_updL mf 4 f) (vp_updL ms 4 g) n i j v).1)))), (aB, .inl (cJ, 4, .inr (.inl ((t2F (vp_updL mf 4 f) (vp_updL ms 4 g) n i j v).2.2.1))))] := hD
              refine lv_iload hx hb d_M_search_55 (lv_at hl 4 rfl) ?_
              refine lv_iconst (v := nI 1) hx hb d_M_search_57 (by decide) ?_
              refine lv_iadd hx hb d_M_search_58 ?_
              refine k_toi (nI_add j 1) ?_
              refine lv_istore (lv' := [(7, .int (nI (j + 1))), (0, .ref h), (1, .long f), (3, .long g), (5, .int (nI i)), (6, .int (nI j))]) hx hb d_M_search_59 hl (by decide) rfl (fun ls hl => ?_)
              have loop_61 : ∀ (fu_61 : Nat) (k : Nat) (v : MixS) (hk : k ≤ n) (hk2 : j < k) (hv3 : s1F (vp_updL mf 4 f) (vp_updL ms 4 g) n (n - (i + 1)) (i + 1) (s2F (vp_updL mf 4 f) (vp_updL ms 4 g) n i (n - (j + 1)) (j + 1) (s3F (vp_updL mf 4 f) (vp_updL ms 4 g) n i j (n - k) k v)) = s1F (vp_updL mf 4 f) (vp_updL ms 4 g) n n 0 u) (hfu_61 : n + 1 ≤ k + fu_61) (H : Heap) (locs : List Loc) (ls : Array Slot), va_P (dC, dI) vwCl [(h, .inr (1, [.ref aL, .int (nI n), .ref aF, .ref aS, .ref aT, .long v.2.1, .ref aB, .long v.2.2.2.1, .int (zI v.2.2.2.2)])), (aL, .inl (cI, 4, .inl ml)), (aF, .inl (cJ, 5, .inr (.inl (vp_updL mf 4 f)))), (aS, .inl (cJ, 5, .inr (.inl (vp_updL ms 4 g)))), (aT, .inl (cJ, 4, .inr (.inl v.1))), (aB, .inl (cJ, 4, .inr (.inl v.2.2.1)))] H → va_D A [(h, .inr (1, [.ref aL, .int (nI n), .ref aF, .ref aS, .ref aT, .long v.2.1, .ref aB, .long v.2.2.2.1, .int (zI v.2.2.2.2)])), (aL, .inl (cI, 4, .inl ml)), (aF, .inl (cJ, 5, .inr (.inl (vp_updL mf 4 f)))), (aS, .inl (cJ, 5, .inr (.inl (vp_updL ms 4 g)))), (aT, .inl (cJ, 4, .inr (.inl v.1))), (aB, .inl (cJ, 4, .inr (.inl v.2.2.1)))] → va_S A s.heap H locs → lv_has ls 8 [(0, .ref h), (1, .long f), (3, .long g), (5, .int (nI i)), (6, .int (nI j)), (7, .int (nI k))] → W p l e { frames := 3, cells := 0, slots := 0, locals := 73 } s m [.ref h, .long f, .long g].toArray below meth c H locs 0 0 (MQ below (q_M_search dC dI cJ cI cZ h aL aF aS aT aB ml n mf ms u f g A) [.ref h, .long f, .long g].toArray s 0 0 A) (F0 m 61 ls []) := by
                intro fu_61
                induction fu_61 with
                | zero =>
                  intro k v hk hk2 hv3 hfu_61 H locs ls hP hD hS hl
                  exact absurd hfu_61 (by omega)
                | succ fu_61 ih_61 =>
                  intro k v hk hk2 hv3 hfu_61 H locs ls hP hD hS hl
                  refine lv_iload hx hb d_M_search_61 (lv_at hl 5 rfl) ?_
                  refine lv_aload_n hx hb d_M_search_63 rfl (lv_at hl 0 rfl) ?_
                  refine va_get (D := (dC, dI)) (ci := 1) (v := .int (nI n)) (C := R_M) (T := T_M) (N := 9) hx hb hts iT_M hown hK hP 0 rfl rfl 1 (by decide) (hts _ wd_37) (fun _ h9 => h9) rfl d_M_search_64 ?_
                  refine k_nge (tgt := 86) hx hb d_M_search_67 (by decide) (by omega) (by omega) (fun c_67 => ?_) (fun c_67 => ?_)
                  · refine lv_iinc (v := nI (j + 1)) (lv' := [(6, .int (nI (j + 1))), (0, .ref h), (1, .long f), (3, .long g), (5, .int (nI i)), (7, .int (nI k))]) hx hb d_M_search_86 hl (k := 4) rfl (nI_add j 1) (by decide) rfl (fun ls hl => ?_)
                    refine lv_goto (tgt := 38) hx hb d_M_search_89 (by decide) ?_
                    exact ih_38 (j + 1) v (by omega) (by omega) (by rw [← hv3, s3F_end (by omega)]) (by omega) _ _ _ hP hD hS (lv_sub hl [1, 2, 3, 4, 0] rfl)
                  · refine lv_aload_n hx hb d_M_search_70 rfl (lv_at hl 0 rfl) ?_
                    refine lv_iload hx hb d_M_search_71 (lv_at hl 3 rfl) ?_
                    refine lv_iload hx hb d_M_search_73 (lv_at hl 4 rfl) ?_
                    refine lv_iload hx hb d_M_search_75 (lv_at hl 5 rfl) ?_
                    refine k_callv (wr := []) (va_runV (As := [.int (nI i), .int (nI j), .int (nI k)]) (rest := []) ⟨hx, hb, hml, hown, hts⟩ (k_M_tryThree l dC dI cJ cI cZ _ h aL aF aS aT aB ml n (vp_updL mf 4 f) (vp_updL ms 4 g) v i j k (by omega) (by omega) (by omega) (by omega)) (k_cw (y := y_M_tryThree) (own := R_M) hts wd_147 wd_26 wd_120 wd_118 wd_119 hd_M_tryThree ⟨Nat.le_of_ble_eq_true rfl, Nat.le_of_ble_eq_true rfl⟩) (k_preV (ci := 1) (q0 := 0) hP hD hK [0, 1, 2, 3, 4, 5] rfl (by decide) rfl rfl) rfl rfl hl.1 rfl (lv_room (Nat.le_of_ble_eq_true rfl)) d_M_search_77 ⟨Nat.le_of_ble_eq_true rfl, Nat.le_of_ble_eq_true rfl⟩) hP hD hS hA [0, 1, 2, 3, 4, 5] [] rfl rfl (by decide) (by decide) (fun uu H locs hpo hP hD hS => ?_)
                    have hP : va_P (dC, dI) vwCl [(h, .inr (1, [.ref aL, .int (nI n), .ref aF, .ref aS, .ref aT, .long ((t3F (vp_updL mf 4 f) (vp_updL ms 4 g) n i j k v).2.1), .ref aB, .long ((t3F (vp_updL mf 4 f) (vp_updL ms 4 g) n i j k v).2.2.2.1), .int (zI ((t3F (vp_updL mf 4 f) (vp_updL ms 4 g) n i j k v).2.2.2.2))])), (aL, .inl (cI, 4, .inl ml)), (aF, .inl (cJ, 5, .inr (.inl (vp_updL mf 4 f)))), (aS, .inl (cJ, 5, .inr (.inl (vp_updL ms 4 g)))), (aT, .inl (cJ, 4, .inr (.inl ((t3F (vp_updL mf 4 f) (vp_updL ms 4 g) n i j k v).1)))), (aB, .inl (cJ, 4, .inr (.inl ((t3F (vp_updL mf 4 f) (vp_updL ms 4 g) n i j k v).2.2.1))))] H := hP
                    have hD : va_D A [(h, .inr (1, [.ref aL, .int (nI n), .ref aF, .ref aS, .ref aT, .long ((t3F (vp_updL mf 4 f) (vp_updL ms 4 g) n i j k v).2.1), .ref aB, .long ((t3F (vp_updL mf 4 f) (vp_updL ms 4 g) n i j k v).2.2.2.1), .int (zI ((t3F (vp_updL mf 4 f) (vp_updL ms 4 g) n i j k v).2.2.2.2))])), (aL, .inl (cI, 4, .inl ml)), (aF, .inl (cJ, 5, .inr (.inl (vp_updL mf 4 f)))), (aS, .inl (cJ, 5, .inr (.inl (vp_updL ms 4 g)))), (aT, .inl (cJ, 4, .inr (.inl ((t3F (vp_updL mf 4 f) (vp_updL ms 4 g) n i j k v).1)))), (aB, .inl (cJ, 4, .inr (.inl ((t3F (vp_updL mf 4 f) (vp_updL ms 4 g) n i j k v).2.2.1))))] := hD
                    refine lv_iinc (v := nI (k + 1)) (lv' := [(7, .int (nI (k + 1))), (0, .ref h), (1, .long f), (3, .long g), (5, .int (nI i)), (6, .int (nI j))]) hx hb d_M_search_80 hl (k := 5) rfl (nI_add k 1) (by decide) rfl (fun ls hl => ?_)
                    refine lv_goto (tgt := 61) hx hb d_M_search_83 (by decide) ?_
                    exact ih_61 (k + 1) (t3F (vp_updL mf 4 f) (vp_updL ms 4 g) n i j k v) (by omega) (by omega) (by rw [← hv3, s3F_go c_67]) (by omega) _ _ _ hP hD hS (lv_sub hl [1, 2, 3, 4, 5, 0] rfl)
              exact loop_61 (n + 1) (j + 1) (t2F (vp_updL mf 4 f) (vp_updL ms 4 g) n i j v) (by omega) (by omega) (by rw [← hv2, s2F_go c_44]) (by omega) _ _ _ hP hD hS (lv_sub hl [1, 2, 3, 4, 5, 0] rfl)
        exact loop_38 (n + 1) (i + 1) (t1F (vp_updL mf 4 f) (vp_updL ms 4 g) n i v) (by omega) (by omega) (by rw [← hv, s1F_go c_23]) (by omega) _ _ _ hP hD hS (lv_sub hl [1, 2, 3, 4, 0] rfl)
  exact loop_17 (n + 1) 0 u (by omega) rfl (by omega) _ _ _ hP hD hS (lv_sub hl [1, 2, 3, 0] rfl)
end
section
/-- X_isWithin -/
abbrev q_X_isWithin (dC : Nat → ClassId) (dI : Nat → Nat → Nat) (cJ cI cZ : ClassId) (x : Int64) (a : Int64) (b : Int64) (A : Nat → Prop) : Array Value → State → Outcome → State → Prop := va_Qi (fun (r : Int32) (_ : Unit) => r = zI (inB x a b)) (kB (dC, dI) vwCl [(cJ, .long), (cI, .int), (cZ, .boolean)] A (fun (_ : Unit) => [])) A
set_option maxHeartbeats 4000000 in
set_option maxRecDepth 100000 in
theorem k_X_isWithin (l : Launch) (dC : Nat → ClassId) (dI : Nat → Nat → Nat) (cJ cI cZ : ClassId) (sz : Nat) (x : Int64) (a : Int64) (b : Int64)  : Met l y_X_isWithin w_X_isWithin { frames := 0, cells := 0, slots := 0, locals := 0 } (kPc (dC, dI) vwCl [(cJ, .long), (cI, .int), (cZ, .boolean)] [] sz [.long x, .long a, .long b]) (q_X_isWithin dC dI cJ cI cZ x a b (va_A [] sz)) 0 0 (va_A [] sz) := by
  refine k_met (q_X_isWithin dC dI cJ cI cZ x a b) (by decide +kernel) rfl (Nat.le_of_ble_eq_true rfl) ?_
  intro p e s m below meth c A hx hb hr hml hown hts hlocks hin hA H hP hK hD hS ls hl
  have hl : lv_has ls 6 [(0, .long x), (2, .long a), (4, .long b)] := hl
  have hown : s.vm.findClass R_X = some m.cls := hown
  have hts : ∀ wW ∈ kT, wW.before [.long x, .long a, .long b].toArray s = true := fun wW hW => hts wW (List.mem_cons_of_mem _ hW)
  refine lv_lload_n hx hb d_X_isWithin_0 rfl (lv_at hl 0 rfl) ?_
  refine lv_lload_n hx hb d_X_isWithin_1 rfl (lv_at hl 1 rfl) ?_
  refine k_jlt (tgt := 17) hx hb d_X_isWithin_2 d_X_isWithin_3 (by decide) (fun c_2 => ?_) (fun c_2 => ?_)
  · refine lv_iconst (v := nI 0) hx hb d_X_isWithin_17 (by decide) ?_
    exact k_zret (v := nI 0) hx hb hr hlocks rfl () (by first | (unfold inB; rw [decide_eq_true c_2, decide_eq_true c_9]; rfl) | (unfold inB; rw [decide_eq_true c_2, decide_eq_false (Int64.not_le.mpr c_9)]; rfl) | (unfold inB; rw [decide_eq_false (Int64.not_le.mpr c_2)]; rfl)) hP hD hK hS [] (by decide) rfl d_X_isWithin_18
  · refine lv_lload_n hx hb d_X_isWithin_6 rfl (lv_at hl 0 rfl) ?_
    refine lv_lload hx hb d_X_isWithin_7 (lv_at hl 2 rfl) ?_
    refine k_jgt (tgt := 17) hx hb d_X_isWithin_9 d_X_isWithin_10 (by decide) (fun c_9 => ?_) (fun c_9 => ?_)
    · refine lv_iconst (v := nI 0) hx hb d_X_isWithin_17 (by decide) ?_
      exact k_zret (v := nI 0) hx hb hr hlocks rfl () (by first | (unfold inB; rw [decide_eq_true c_2, decide_eq_true c_9]; rfl) | (unfold inB; rw [decide_eq_true c_2, decide_eq_false (Int64.not_le.mpr c_9)]; rfl) | (unfold inB; rw [decide_eq_false (Int64.not_le.mpr c_2)]; rfl)) hP hD hK hS [] (by decide) rfl d_X_isWithin_18
    · refine lv_iconst (v := nI 1) hx hb d_X_isWithin_13 (by decide) ?_
      refine lv_goto (tgt := 18) hx hb d_X_isWithin_14 (by decide) ?_
      exact k_zret (v := nI 1) hx hb hr hlocks rfl () (by first | (unfold inB; rw [decide_eq_true c_2, decide_eq_true c_9]; rfl) | (unfold inB; rw [decide_eq_true c_2, decide_eq_false (Int64.not_le.mpr c_9)]; rfl) | (unfold inB; rw [decide_eq_false (Int64.not_le.mpr c_2)]; rfl)) hP hD hK hS [] (by decide) rfl d_X_isWithin_18
/-- X_wholeParts -/
abbrev q_X_wholeParts (dC : Nat → ClassId) (dI : Nat → Nat → Nat) (cJ cI cZ : ClassId) (a : Int64) (b : Int64) (A : Nat → Prop) : Array Value → State → Outcome → State → Prop := va_Ql (fun (r : Int64) (_ : Unit) => r = wpF a b) (kB (dC, dI) vwCl [(cJ, .long), (cI, .int), (cZ, .boolean)] A (fun (_ : Unit) => [])) A
set_option maxHeartbeats 4000000 in
set_option maxRecDepth 100000 in
theorem k_X_wholeParts (l : Launch) (dC : Nat → ClassId) (dI : Nat → Nat → Nat) (cJ cI cZ : ClassId) (sz : Nat) (a : Int64) (b : Int64)  : Met l y_X_wholeParts w_X_wholeParts { frames := 1, cells := 0, slots := 0, locals := 25 } (kPc (dC, dI) vwCl [(cJ, .long), (cI, .int), (cZ, .boolean)] [] sz [.long a, .long b]) (q_X_wholeParts dC dI cJ cI cZ a b (va_A [] sz)) 0 0 (va_A [] sz) := by
  refine k_met (q_X_wholeParts dC dI cJ cI cZ a b) (by decide +kernel) rfl (Nat.le_of_ble_eq_true rfl) ?_
  intro p e s m below meth c A hx hb hr hml hown hts hlocks hin hA H hP hK hD hS ls hl
  have hl : lv_has ls 6 [(0, .long a), (2, .long b)] := hl
  have hown : s.vm.findClass R_X = some m.cls := hown
  have hts : ∀ wW ∈ kT, wW.before [.long a, .long b].toArray s = true := fun wW hW => hts wW (List.mem_cons_of_mem _ hW)
  refine lv_lload_n hx hb d_X_wholeParts_0 rfl (lv_at hl 1 rfl) ?_
  refine lv_lconst (v := 1) hx hb d_X_wholeParts_1 (by decide) ?_
  refine lv_ldc2 (v := 10000) hx hb hown (hts _ wd_57) d_X_wholeParts_2 ?_
  refine k_calli (wr := []) (va_runS (As := [.long b, .long 1, .long 10000]) (rest := []) ⟨hx, hb, hml, hown, hts⟩ (k_X_isWithin l dC dI cJ cI cZ _ b 1 10000) (k_cs (y := y_X_isWithin) (own := R_X) hts wd_58 wd_46 wd_51 wd_50 hd_X_isWithin ⟨Nat.le_of_ble_eq_true rfl, Nat.le_of_ble_eq_true rfl⟩) (k_preS hP hD hK [] rfl (by decide)) rfl rfl hl.1 rfl (lv_room (Nat.le_of_ble_eq_true rfl)) d_X_wholeParts_5 ⟨Nat.le_of_ble_eq_true rfl, Nat.le_of_ble_eq_true rfl⟩) hP hD hS hA [] [] rfl rfl (by decide) (by decide) (fun r_5 uu H locs hpo hP hD hS => ?_)
  have hpo : r_5 = zI (inB b 1 10000) := hpo
  subst hpo
  have hP : va_P (dC, dI) vwCl [] H := hP
  have hD : va_D A [] := hD
  refine k_zeq (tgt := 20) hx hb d_X_wholeParts_8 (by decide) (fun c_8 => ?_) (fun c_8 => ?_)
  · refine lv_ldc2 (v := (-1)) hx hb hown (hts _ wd_52) d_X_wholeParts_20 ?_
    exact k_lret (v := (-1)) hx hb hr hlocks () (by first | (unfold wpF; rw [c_8]; rfl) | (unfold wpF; rw [c_8, c_17]; rfl)) hP hD hK hS [] (by decide) rfl d_X_wholeParts_23
  · refine lv_lload_n hx hb d_X_wholeParts_11 rfl (lv_at hl 0 rfl) ?_
    refine lv_lconst (v := 0) hx hb d_X_wholeParts_12 (by decide) ?_
    refine lv_lload_n hx hb d_X_wholeParts_13 rfl (lv_at hl 1 rfl) ?_
    refine k_calli (wr := []) (va_runS (As := [.long a, .long 0, .long b]) (rest := []) ⟨hx, hb, hml, hown, hts⟩ (k_X_isWithin l dC dI cJ cI cZ _ a 0 b) (k_cs (y := y_X_isWithin) (own := R_X) hts wd_58 wd_46 wd_51 wd_50 hd_X_isWithin ⟨Nat.le_of_ble_eq_true rfl, Nat.le_of_ble_eq_true rfl⟩) (k_preS hP hD hK [] rfl (by decide)) rfl rfl hl.1 rfl (lv_room (Nat.le_of_ble_eq_true rfl)) d_X_wholeParts_14 ⟨Nat.le_of_ble_eq_true rfl, Nat.le_of_ble_eq_true rfl⟩) hP hD hS hA [] [] rfl rfl (by decide) (by decide) (fun r_14 uu H locs hpo hP hD hS => ?_)
    have hpo : r_14 = zI (inB a 0 b) := hpo
    subst hpo
    have hP : va_P (dC, dI) vwCl [] H := hP
    have hD : va_D A [] := hD
    refine k_zne (tgt := 24) hx hb d_X_wholeParts_17 (by decide) (fun c_17 => ?_) (fun c_17 => ?_)
    · refine lv_lload_n hx hb d_X_wholeParts_24 rfl (lv_at hl 0 rfl) ?_
      refine lv_ldc2 (v := 10000) hx hb hown (hts _ wd_57) d_X_wholeParts_25 ?_
      refine lv_lmul hx hb d_X_wholeParts_28 ?_
      refine lv_lstore (lv' := [(4, .long (a * 10000)), (0, .long a), (2, .long b)]) hx hb d_X_wholeParts_29 hl (by decide) rfl (fun ls hl => ?_)
      refine lv_lload hx hb d_X_wholeParts_31 (lv_at hl 0 rfl) ?_
      refine lv_lload_n hx hb d_X_wholeParts_33 rfl (lv_at hl 2 rfl) ?_
      refine lv_lrem hx hb d_X_wholeParts_34 (inB_ne c_8) ?_
      refine lv_lconst (v := 0) hx hb d_X_wholeParts_35 (by decide) ?_
      refine k_jne (tgt := 47) hx hb d_X_wholeParts_36 d_X_wholeParts_37 (by decide) (fun c_36 => ?_) (fun c_36 => ?_)
      · refine lv_ldc2 (v := (-1)) hx hb hown (hts _ wd_52) d_X_wholeParts_47 ?_
        exact k_lret (v := (-1)) hx hb hr hlocks () (by first | (unfold wpF; rw [c_8, c_17, if_pos (show (true && true) = true from rfl), if_pos c_36]; done) | (unfold wpF; rw [c_8, c_17, if_pos (show (true && true) = true from rfl), if_neg c_36]; done)) hP hD hK hS [] (by decide) rfl d_X_wholeParts_50
      · refine lv_lload hx hb d_X_wholeParts_40 (lv_at hl 0 rfl) ?_
        refine lv_lload_n hx hb d_X_wholeParts_42 rfl (lv_at hl 2 rfl) ?_
        refine lv_ldiv hx hb d_X_wholeParts_43 (inB_ne c_8) ?_
        refine lv_goto (tgt := 50) hx hb d_X_wholeParts_44 (by decide) ?_
        exact k_lret (v := (a * 10000) / b) hx hb hr hlocks () (by first | (unfold wpF; rw [c_8, c_17, if_pos (show (true && true) = true from rfl), if_pos c_36]; done) | (unfold wpF; rw [c_8, c_17, if_pos (show (true && true) = true from rfl), if_neg c_36]; done)) hP hD hK hS [] (by decide) rfl d_X_wholeParts_50
    · refine lv_ldc2 (v := (-1)) hx hb hown (hts _ wd_52) d_X_wholeParts_20 ?_
      exact k_lret (v := (-1)) hx hb hr hlocks () (by first | (unfold wpF; rw [c_8]; rfl) | (unfold wpF; rw [c_8, c_17]; rfl)) hP hD hK hS [] (by decide) rfl d_X_wholeParts_23
/-- X_hundredthsRoundedUp -/
abbrev q_X_hundredthsRoundedUp (dC : Nat → ClassId) (dI : Nat → Nat → Nat) (cJ cI cZ : ClassId) (x : Int64) (A : Nat → Prop) : Array Value → State → Outcome → State → Prop := va_Ql (fun (r : Int64) (_ : Unit) => r = (x + 99) / 100) (kB (dC, dI) vwCl [(cJ, .long), (cI, .int), (cZ, .boolean)] A (fun (_ : Unit) => [])) A
set_option maxHeartbeats 4000000 in
set_option maxRecDepth 100000 in
theorem k_X_hundredthsRoundedUp (l : Launch) (dC : Nat → ClassId) (dI : Nat → Nat → Nat) (cJ cI cZ : ClassId) (sz : Nat) (x : Int64)  : Met l y_X_hundredthsRoundedUp w_X_hundredthsRoundedUp { frames := 0, cells := 0, slots := 0, locals := 0 } (kPc (dC, dI) vwCl [(cJ, .long), (cI, .int), (cZ, .boolean)] [] sz [.long x]) (q_X_hundredthsRoundedUp dC dI cJ cI cZ x (va_A [] sz)) 0 0 (va_A [] sz) := by
  refine k_met (q_X_hundredthsRoundedUp dC dI cJ cI cZ x) (by decide +kernel) rfl (Nat.le_of_ble_eq_true rfl) ?_
  intro p e s m below meth c A hx hb hr hml hown hts hlocks hin hA H hP hK hD hS ls hl
  have hl : lv_has ls 2 [(0, .long x)] := hl
  have hown : s.vm.findClass R_X = some m.cls := hown
  have hts : ∀ wW ∈ kT, wW.before [.long x].toArray s = true := fun wW hW => hts wW (List.mem_cons_of_mem _ hW)
  refine lv_lload_n hx hb d_X_hundredthsRoundedUp_0 rfl (lv_at hl 0 rfl) ?_
  refine lv_ldc2 (v := 99) hx hb hown (hts _ wd_199) d_X_hundredthsRoundedUp_1 ?_
  refine lv_ladd hx hb d_X_hundredthsRoundedUp_4 ?_
  refine lv_ldc2 (v := 100) hx hb hown (hts _ wd_200) d_X_hundredthsRoundedUp_5 ?_
  refine lv_ldiv hx hb d_X_hundredthsRoundedUp_8 (by decide) ?_
  exact k_lret (v := (x + 99) / 100) hx hb hr hlocks () rfl hP hD hK hS [] (by decide) rfl d_X_hundredthsRoundedUp_9
/-- X_gramsOf -/
abbrev q_X_gramsOf (dC : Nat → ClassId) (dI : Nat → Nat → Nat) (cJ cI cZ : ClassId) (a : Int64) (b : Int64) (A : Nat → Prop) : Array Value → State → Outcome → State → Prop := va_Ql (fun (r : Int64) (_ : Unit) => r = (2000 * a + b) / (2 * b)) (kB (dC, dI) vwCl [(cJ, .long), (cI, .int), (cZ, .boolean)] A (fun (_ : Unit) => [])) A
set_option maxHeartbeats 4000000 in
set_option maxRecDepth 100000 in
theorem k_X_gramsOf (l : Launch) (dC : Nat → ClassId) (dI : Nat → Nat → Nat) (cJ cI cZ : ClassId) (sz : Nat) (a : Int64) (b : Int64) (hb9 : ¬ 2 * b = 0) : Met l y_X_gramsOf w_X_gramsOf { frames := 0, cells := 0, slots := 0, locals := 0 } (kPc (dC, dI) vwCl [(cJ, .long), (cI, .int), (cZ, .boolean)] [] sz [.long a, .long b]) (q_X_gramsOf dC dI cJ cI cZ a b (va_A [] sz)) 0 0 (va_A [] sz) := by
  refine k_met (q_X_gramsOf dC dI cJ cI cZ a b) (by decide +kernel) rfl (Nat.le_of_ble_eq_true rfl) ?_
  intro p e s m below meth c A hx hb hr hml hown hts hlocks hin hA H hP hK hD hS ls hl
  have hl : lv_has ls 4 [(0, .long a), (2, .long b)] := hl
  have hown : s.vm.findClass R_X = some m.cls := hown
  have hts : ∀ wW ∈ kT, wW.before [.long a, .long b].toArray s = true := fun wW hW => hts wW (List.mem_cons_of_mem _ hW)
  refine lv_ldc2 (v := 2000) hx hb hown (hts _ wd_189) d_X_gramsOf_0 ?_
  refine lv_lload_n hx hb d_X_gramsOf_3 rfl (lv_at hl 0 rfl) ?_
  refine lv_lmul hx hb d_X_gramsOf_4 ?_
  refine lv_lload_n hx hb d_X_gramsOf_5 rfl (lv_at hl 1 rfl) ?_
  refine lv_ladd hx hb d_X_gramsOf_6 ?_
  refine lv_ldc2 (v := 2) hx hb hown (hts _ wd_172) d_X_gramsOf_7 ?_
  refine lv_lload_n hx hb d_X_gramsOf_10 rfl (lv_at hl 1 rfl) ?_
  refine lv_lmul hx hb d_X_gramsOf_11 ?_
  refine lv_ldiv hx hb d_X_gramsOf_12 hb9 ?_
  exact k_lret (v := ((2000 * a) + b) / (2 * b)) hx hb hr hlocks () rfl hP hD hK hS [] (by decide) rfl d_X_gramsOf_13
/-- X_commonDivisor -/
abbrev q_X_commonDivisor (dC : Nat → ClassId) (dI : Nat → Nat → Nat) (cJ cI cZ : ClassId) (a : Nat) (b : Nat) (A : Nat → Prop) : Array Value → State → Outcome → State → Prop := va_Ql (fun (r : Int64) (_ : Unit) => r = lN (max 1 (Nat.gcd a b))) (kB (dC, dI) vwCl [(cJ, .long), (cI, .int), (cZ, .boolean)] A (fun (_ : Unit) => [])) A
set_option maxHeartbeats 4000000 in
set_option maxRecDepth 100000 in
theorem k_X_commonDivisor (l : Launch) (dC : Nat → ClassId) (dI : Nat → Nat → Nat) (cJ cI cZ : ClassId) (sz : Nat) (a : Nat) (b : Nat) (ha : a < 2 ^ 63) (hb9 : b < 2 ^ 50) : Met l y_X_commonDivisor w_X_commonDivisor { frames := 1, cells := 0, slots := 0, locals := 23 } (kPc (dC, dI) vwCl [(cJ, .long), (cI, .int), (cZ, .boolean)] [] sz [.long (lN a), .long (lN b)]) (q_X_commonDivisor dC dI cJ cI cZ a b (va_A [] sz)) 0 0 (va_A [] sz) := by
  refine k_met (q_X_commonDivisor dC dI cJ cI cZ a b) (by decide +kernel) rfl (Nat.le_of_ble_eq_true rfl) ?_
  intro p e s m below meth c A hx hb hr hml hown hts hlocks hin hA H hP hK hD hS ls hl
  have hl : lv_has ls 11 [(0, .long (lN a)), (2, .long (lN b))] := hl
  have hown : s.vm.findClass R_X = some m.cls := hown
  have hts : ∀ wW ∈ kT, wW.before [.long (lN a), .long (lN b)].toArray s = true := fun wW hW => hts wW (List.mem_cons_of_mem _ hW)
  refine lv_lload_n hx hb d_X_commonDivisor_0 rfl (lv_at hl 0 rfl) ?_
  refine lv_lstore (lv' := [(4, .long (lN a)), (0, .long (lN a)), (2, .long (lN b))]) hx hb d_X_commonDivisor_1 hl (by decide) rfl (fun ls hl => ?_)
  refine lv_lload_n hx hb d_X_commonDivisor_3 rfl (lv_at hl 2 rfl) ?_
  refine lv_lstore (lv' := [(6, .long (lN b)), (4, .long (lN a)), (0, .long (lN a)), (2, .long (lN b))]) hx hb d_X_commonDivisor_4 hl (by decide) rfl (fun ls hl => ?_)
  refine lv_iconst (v := nI 0) hx hb d_X_commonDivisor_6 (by decide) ?_
  refine lv_istore (lv' := [(8, .int (nI 0)), (6, .long (lN b)), (4, .long (lN a)), (0, .long (lN a)), (2, .long (lN b))]) hx hb d_X_commonDivisor_7 hl (by decide) rfl (fun ls hl => ?_)
  have loop_9 : ∀ (fu_9 : Nat) (P : Nat) (Q : Nat) (t : Nat) (hp : P < 2 ^ 63) (hq : Q < 2 ^ 63) (ht : t ≤ 100) (hg : Nat.gcd P Q = Nat.gcd a b) (hI : cdI P Q t) (hfu_9 : 101 ≤ t + fu_9) (H : Heap) (locs : List Loc) (ls : Array Slot), va_P (dC, dI) vwCl [] H → va_D A [] → va_S A s.heap H locs → lv_has ls 11 [(0, .long (lN a)), (2, .long (lN b)), (4, .long (lN P)), (6, .long (lN Q)), (8, .int (nI t))] → W p l e { frames := 1, cells := 0, slots := 0, locals := 23 } s m [.long (lN a), .long (lN b)].toArray below meth c H locs 0 0 (MQ below (q_X_commonDivisor dC dI cJ cI cZ a b A) [.long (lN a), .long (lN b)].toArray s 0 0 A) (F0 m 9 ls []) := by
    intro fu_9
    induction fu_9 with
    | zero =>
      intro P Q t hp hq ht hg hI hfu_9 H locs ls hP hD hS hl
      exact absurd hfu_9 (by omega)
    | succ fu_9 ih_9 =>
      intro P Q t hp hq ht hg hI hfu_9 H locs ls hP hD hS hl
      refine lv_iload hx hb d_X_commonDivisor_9 (lv_at hl 4 rfl) ?_
      refine lv_bipush (v := nI 100) hx hb d_X_commonDivisor_11 (by decide) ?_
      refine k_nge (tgt := 44) hx hb d_X_commonDivisor_13 (by decide) (by omega) (by omega) (fun c_13 => ?_) (fun c_13 => ?_)
      · refine lv_lconst (v := 1) hx hb d_X_commonDivisor_44 (by decide) ?_
        refine lv_lload hx hb d_X_commonDivisor_45 (lv_at hl 2 rfl) ?_
        refine va_mmax_long hx hb (hml.trans hl.1.symm) hown (hts _ wd_168) (hts _ wd_170) (hts _ wd_85) (hts _ wd_169) (Nat.le_of_ble_eq_true rfl) (Nat.le_of_ble_eq_true rfl) (Nat.le_of_ble_eq_true rfl) (Nat.le_of_ble_eq_true rfl) d_X_commonDivisor_47 ?_
        refine k_tol (y := lN (max 1 (Nat.gcd a b))) (by first | exact cd_end hp hg (cdI_q hI c_13) | exact cd_end hp hg (q_zero hq c_19)) ?_
        exact k_lret (v := lN (max 1 (Nat.gcd a b))) hx hb hr hlocks () rfl hP hD hK hS [] (by decide) rfl d_X_commonDivisor_50
      · refine lv_lload hx hb d_X_commonDivisor_16 (lv_at hl 3 rfl) ?_
        refine lv_lconst (v := 0) hx hb d_X_commonDivisor_18 (by decide) ?_
        refine k_jeq (tgt := 44) hx hb d_X_commonDivisor_19 d_X_commonDivisor_20 (by decide) (fun c_19 => ?_) (fun c_19 => ?_)
        · refine lv_lconst (v := 1) hx hb d_X_commonDivisor_44 (by decide) ?_
          refine lv_lload hx hb d_X_commonDivisor_45 (lv_at hl 2 rfl) ?_
          refine va_mmax_long hx hb (hml.trans hl.1.symm) hown (hts _ wd_168) (hts _ wd_170) (hts _ wd_85) (hts _ wd_169) (Nat.le_of_ble_eq_true rfl) (Nat.le_of_ble_eq_true rfl) (Nat.le_of_ble_eq_true rfl) (Nat.le_of_ble_eq_true rfl) d_X_commonDivisor_47 ?_
          refine k_tol (y := lN (max 1 (Nat.gcd a b))) (by first | exact cd_end hp hg (cdI_q hI c_13) | exact cd_end hp hg (q_zero hq c_19)) ?_
          exact k_lret (v := lN (max 1 (Nat.gcd a b))) hx hb hr hlocks () rfl hP hD hK hS [] (by decide) rfl d_X_commonDivisor_50
        · refine lv_lload hx hb d_X_commonDivisor_23 (lv_at hl 2 rfl) ?_
          refine lv_lload hx hb d_X_commonDivisor_25 (lv_at hl 3 rfl) ?_
          refine lv_lrem hx hb d_X_commonDivisor_27 c_19 ?_
          refine k_tol (y := lN (P % Q)) (pk_lRem hp (q_pos c_19) hq) ?_
          refine lv_lstore (lv' := [(9, .long (lN (P % Q))), (0, .long (lN a)), (2, .long (lN b)), (4, .long (lN P)), (6, .long (lN Q)), (8, .int (nI t))]) hx hb d_X_commonDivisor_28 hl (by decide) rfl (fun ls hl => ?_)
          refine lv_lload hx hb d_X_commonDivisor_30 (lv_at hl 4 rfl) ?_
          refine lv_lstore (lv' := [(4, .long (lN Q)), (9, .long (lN (P % Q))), (0, .long (lN a)), (2, .long (lN b)), (6, .long (lN Q)), (8, .int (nI t))]) hx hb d_X_commonDivisor_32 hl (by decide) rfl (fun ls hl => ?_)
          refine lv_lload hx hb d_X_commonDivisor_34 (lv_at hl 1 rfl) ?_
          refine lv_lstore (lv' := [(6, .long (lN (P % Q))), (4, .long (lN Q)), (9, .long (lN (P % Q))), (0, .long (lN a)), (2, .long (lN b)), (8, .int (nI t))]) hx hb d_X_commonDivisor_36 hl (by decide) rfl (fun ls hl => ?_)
          refine lv_iinc (v := nI (t + 1)) (lv' := [(8, .int (nI (t + 1))), (6, .long (lN (P % Q))), (4, .long (lN Q)), (9, .long (lN (P % Q))), (0, .long (lN a)), (2, .long (lN b))]) hx hb d_X_commonDivisor_38 hl (k := 5) rfl (nI_add t 1) (by decide) rfl (fun ls hl => ?_)
          refine lv_goto (tgt := 9) hx hb d_X_commonDivisor_41 (by decide) ?_
          exact ih_9 Q (P % Q) (t + 1) hq (Nat.lt_trans (Nat.mod_lt P (q_pos c_19)) hq) (by omega) ((gcd_step P Q).trans hg) (cdI_step hI (q_pos c_19) c_13) (by omega) _ _ _ hP hD hS (lv_sub hl [4, 5, 2, 1, 0] rfl)
  exact loop_9 101 a b 0 (by omega) (by omega) (by omega) rfl (cdI_0 hb9) (by omega) _ _ _ hP hD hS (lv_sub hl [3, 4, 2, 1, 0] rfl)
/-- X_reducedPart -/
abbrev q_X_reducedPart (dC : Nat → ClassId) (dI : Nat → Nat → Nat) (cJ cI cZ : ClassId) (a : Nat) (b : Nat) (part : Int32) (A : Nat → Prop) : Array Value → State → Outcome → State → Prop := va_Ql (fun (r : Int64) (_ : Unit) => r = rpF a b part) (kB (dC, dI) vwCl [(cJ, .long), (cI, .int), (cZ, .boolean)] A (fun (_ : Unit) => [])) A
set_option maxHeartbeats 4000000 in
set_option maxRecDepth 100000 in
theorem k_X_reducedPart (l : Launch) (dC : Nat → ClassId) (dI : Nat → Nat → Nat) (cJ cI cZ : ClassId) (sz : Nat) (a : Nat) (b : Nat) (part : Int32) (ha : a < 2 ^ 63) (hb9 : b < 2 ^ 50) (hg9 : max 1 (Nat.gcd a b) < 2 ^ 63) : Met l y_X_reducedPart w_X_reducedPart { frames := 2, cells := 0, slots := 0, locals := 53 } (kPc (dC, dI) vwCl [(cJ, .long), (cI, .int), (cZ, .boolean)] [] sz [.long (lN a), .long (lN b), .int part]) (q_X_reducedPart dC dI cJ cI cZ a b part (va_A [] sz)) 0 0 (va_A [] sz) := by
  refine k_met (q_X_reducedPart dC dI cJ cI cZ a b part) (by decide +kernel) rfl (Nat.le_of_ble_eq_true rfl) ?_
  intro p e s m below meth c A hx hb hr hml hown hts hlocks hin hA H hP hK hD hS ls hl
  have hl : lv_has ls 7 [(0, .long (lN a)), (2, .long (lN b)), (4, .int part)] := hl
  have hown : s.vm.findClass R_X = some m.cls := hown
  have hts : ∀ wW ∈ kT, wW.before [.long (lN a), .long (lN b), .int part].toArray s = true := fun wW hW => hts wW (List.mem_cons_of_mem _ hW)
  refine lv_lload_n hx hb d_X_reducedPart_0 rfl (lv_at hl 0 rfl) ?_
  refine lv_lload_n hx hb d_X_reducedPart_1 rfl (lv_at hl 1 rfl) ?_
  refine k_calll (wr := []) (va_runS (As := [.long (lN a), .long (lN b)]) (rest := []) ⟨hx, hb, hml, hown, hts⟩ (k_X_commonDivisor l dC dI cJ cI cZ _ a b (by omega) (by omega)) (k_cs (y := y_X_commonDivisor) (own := R_X) hts wd_167 wd_46 wd_166 wd_165 hd_X_commonDivisor ⟨Nat.le_of_ble_eq_true rfl, Nat.le_of_ble_eq_true rfl⟩) (k_preS hP hD hK [] rfl (by decide)) rfl rfl hl.1 rfl (lv_room (Nat.le_of_ble_eq_true rfl)) d_X_reducedPart_2 ⟨Nat.le_of_ble_eq_true rfl, Nat.le_of_ble_eq_true rfl⟩) hP hD hS hA [] [] rfl rfl (by decide) (by decide) (fun r_2 uu H locs hpo hP hD hS => ?_)
  have hpo : r_2 = lN (max 1 (Nat.gcd a b)) := hpo
  subst hpo
  have hP : va_P (dC, dI) vwCl [] H := hP
  have hD : va_D A [] := hD
  refine lv_lstore (lv' := [(5, .long (lN (max 1 (Nat.gcd a b)))), (0, .long (lN a)), (2, .long (lN b)), (4, .int part)]) hx hb d_X_reducedPart_5 hl (by decide) rfl (fun ls hl => ?_)
  refine lv_iload hx hb d_X_reducedPart_7 (lv_at hl 3 rfl) ?_
  refine lv_if_ne (tgt := 19) hx hb d_X_reducedPart_9 (by decide) (fun c_9 => ?_) (fun c_9 => ?_)
  · refine lv_lload_n hx hb d_X_reducedPart_19 rfl (lv_at hl 2 rfl) ?_
    refine lv_lload hx hb d_X_reducedPart_20 (lv_at hl 0 rfl) ?_
    refine lv_ldiv hx hb d_X_reducedPart_22 (lN_nz (by omega) hg9) ?_
    refine k_tol (y := lN (b / max 1 (Nat.gcd a b))) (pk_lDiv (by omega) (by omega) hg9) ?_
    exact k_lret (v := lN (b / max 1 (Nat.gcd a b))) hx hb hr hlocks () (by first | (unfold rpF; rw [if_pos c_9]; done) | (unfold rpF; rw [if_neg c_9]; done)) hP hD hK hS [] (by decide) rfl d_X_reducedPart_23
  · refine lv_lload_n hx hb d_X_reducedPart_12 rfl (lv_at hl 1 rfl) ?_
    refine lv_lload hx hb d_X_reducedPart_13 (lv_at hl 0 rfl) ?_
    refine lv_ldiv hx hb d_X_reducedPart_15 (lN_nz (by omega) hg9) ?_
    refine k_tol (y := lN (a / max 1 (Nat.gcd a b))) (pk_lDiv ha (by omega) hg9) ?_
    refine lv_goto (tgt := 23) hx hb d_X_reducedPart_16 (by decide) ?_
    exact k_lret (v := lN (a / max 1 (Nat.gcd a b))) hx hb hr hlocks () (by first | (unfold rpF; rw [if_pos c_9]; done) | (unfold rpF; rw [if_neg c_9]; done)) hP hD hK hS [] (by decide) rfl d_X_reducedPart_23
end
