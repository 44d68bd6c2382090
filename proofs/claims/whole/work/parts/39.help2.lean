abbrev zn_S : Cond := .methodLinkNest "FatBalance" 51 y_S_init "FatBalance"
abbrev zn_M : Cond := .methodLinkNest "FatBalance" 58 y_M_init "FatBalance"
/-! A contract whose start also holds the links of a nest. -/
def kPcZ (Z : State → Prop) (D : va_G) (cl : List vw_C) (tys : List (ClassId × FieldType)) (w : va_W) (sz : Nat) (av : List Value) : Array Value → State → Prop :=
  va_Pc av (fun U => (U.heap.size = sz ∧ va_P D cl w U.heap ∧ va_K D cl tys U ∧ va_D (fun _ => True) w) ∧ Z U)
def kZ (U : State) : Prop := va_Nw zn_S U ∧ va_Nw zn_M U
theorem kPcZ_blind {D : va_G} {cl : List vw_C} {tys : List (ClassId × FieldType)} {w : va_W} {sz : Nat} {av : List Value} : FrameBlind (kPcZ kZ D cl tys w sz av) := fun a U g mk q => by
  obtain ⟨q0, ⟨q1, qP, qK, qD⟩, z1, z2⟩ := q
  exact ⟨q0, ⟨q1, qP, va_K.moved (u := U) (U := U.calling g mk a) (Vm.Alike.refl U.vm) qK, qD⟩, va_Nw.same rfl rfl z1, va_Nw.same rfl rfl z2⟩
theorem k_preSZ {s : State} {H : Heap} {D : va_G} {cl : List vw_C} {tys : List (ClassId × FieldType)} {ws wc : va_W} {A : Nat → Prop} {As : List Value} (hZ : kZ s) (hP : va_P D cl ws H) (hD : va_D A ws) (hK : va_K D cl tys s) (is : List Nat) (hC : is.map (fun i => ws[i]?) = wc.map some) (hn : va_nd is = true) : PreS s H (kPcZ kZ D cl tys wc H.size As) As :=
  ⟨kPcZ_blind, fun U hU hW => ⟨rfl, ⟨by rw [hU], by rw [hU]; exact hP.sub is (k_fm hC), va_K.moved hW.alike hK, (hD.sub is hn hC).weaken (fun _ _ _ _ => trivial)⟩, va_Nw.warmM hW hZ.1, va_Nw.warmM hW hZ.2⟩⟩
theorem k_metZ {l : Launch} {y : MethodName} {ws ws' : List Cond} {rm : Room} {mc ms : Nat} {cc : ByteArray} {maxL : Nat} {ret : Option FieldType} {D : va_G} {cl : List vw_C} {tys : List (ClassId × FieldType)} {w : va_W} {sz : Nat} {av : List Value} {Z : State → Prop}
    (Qg : (Nat → Prop) → Array Value → State → Outcome → State → Prop) (hy : plainFor y = true) (hw : ws = Cond.code y cc maxL ret :: ws') (hlen : (lg_sl av).length ≤ maxL)
    (body : ∀ (p : Program) (e : Env) (s : State) (m : MethodId) (below : List Frame) (meth : Method) (c : Code) (A : Nat → Prop), p.tables.exec = Jvm.exec → c.code = cc → meth.sig.returnType = ret → c.maxLocals = maxL → s.vm.findClass y.cls = some m.cls → (∀ w ∈ ws, w.before av.toArray s = true) → meth.locks = false → meth.name = y.name → (∀ q, s.heap.size ≤ q → A q) → Z s → ∀ H : Heap, va_P D cl w H → va_K D cl tys s → va_D A w → va_S A s.heap H [] → ∀ ls : Array Slot, lv_has ls maxL (lv_args 0 av) →
      W p l e rm s m av.toArray below meth c H [] 0 0 (MQ below (Qg A) av.toArray s mc ms A) (F0 m 0 ls [])) : Met l y ws rm (kPcZ Z D cl tys w sz av) (Qg (va_A w sz)) mc ms (va_A w sz) := by
  refine k_ofW (cc := cc) (maxL := maxL) (ret := ret) hy hw ?_
  intro p e s m args below meth c s₁ B hml hv
  obtain ⟨rfl, ⟨hsz, hP, hK, hD0⟩, hZ⟩ := hv
  subst hsz
  rw [lg_entry_eq]
  exact body p e s m below meth c (va_A w s.heap.size) B.exec B.bytes B.returns hml (findClass_of_methodNamed B.named) (atoms_spec (ws := ws) B.pre) B.notSynchronized (name_of_methodNamed B.named B.method).1 (fun q h => Or.inr h) hZ s.heap hP hK (hD0.self (sz := s.heap.size)) va_S.rf _ (lv_entry av hlen)
theorem k_cin {R : Room} {s : State} {args : Array Value} {own host : String} {index maxL n : Nat} {y : MethodName} {bytes : ByteArray} {rm : Room} (ht : ∀ w ∈ kT, w.before args s = true) (hc : Cond.code y bytes maxL none ∈ kT) (hini : Cond.initialized y.cls ∈ kT) (hl : va_Nw (.methodLinkNest own index y host) s) (hin : Cond.instanceMethod y ∈ kT) (hy : y.name = "<init>") (hd : y.cls ≠ "java/lang/invoke/MethodHandle" ∧ y.cls ≠ "java/lang/invoke/VarHandle" ∧ (parseMethodDescriptor y.desc).map (fun d => d.parameters.length) = some n) (hR : rm.frames + 1 ≤ R.frames ∧ 8 + (maxL + 11) + rm.locals ≤ R.locals) : va_CN R s args own index y host bytes maxL none (Cond.code y bytes maxL none :: kT) rm rm.cells rm.slots n ∧ y.name = "<init>" ∧ (Cond.instanceMethod y).before args s = true :=
  ⟨va_cnB n ht (kT_good hc) rfl rfl rfl hl (ht _ hini) hd hR, hy, ht _ hin⟩
