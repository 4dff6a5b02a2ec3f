def NSm : List (String × Nat × MethodName × String) := [("MemoryMap", 9, ⟨"MemoryMap$Regions", "<init>", "()V"⟩, "MemoryMap"), ("MemoryMap", 18, ⟨"MemoryMap$Sections", "<init>", "()V"⟩, "MemoryMap"), ("MemoryMap", 25, ⟨"MemoryMap$Taken", "<init>", "()V"⟩, "MemoryMap"), ("MemoryMap", 36, ⟨"MemoryMap$Placements", "<init>", "()V"⟩, "MemoryMap"), ("MemoryMap", 43, ⟨"MemoryMap$Functions", "<init>", "()V"⟩, "MemoryMap"), ("MemoryMap", 66, ⟨"MemoryMap$Regions", "overlap", "(II)Z"⟩, "MemoryMap"), ("MemoryMap", 70, ⟨"MemoryMap$Regions", "add", "(III)I"⟩, "MemoryMap"), ("MemoryMap", 85, ⟨"MemoryMap$Taken", "clear", "()V"⟩, "MemoryMap"), ("MemoryMap", 184, ⟨"MemoryMap$Regions", "allow", "(II)Z"⟩, "MemoryMap"), ("MemoryMap", 193, ⟨"MemoryMap$Taken", "leastFree", "(III)I"⟩, "MemoryMap"), ("MemoryMap", 199, ⟨"MemoryMap$Taken", "add", "(II)V"⟩, "MemoryMap"), ("MemoryMap", 95, ⟨"MemoryMap$Placements", "add", "([II)V"⟩, "MemoryMap"), ("MemoryMap", 115, ⟨"MemoryMap$Functions", "addCall", "(II)V"⟩, "MemoryMap"), ("MemoryMap", 119, ⟨"MemoryMap$Functions", "countCalls", "(I)I"⟩, "MemoryMap"), ("MemoryMap", 124, ⟨"MemoryMap$Functions", "depthFrom", "(I)I"⟩, "MemoryMap"), ("MemoryMap", 132, ⟨"MemoryMap$Block", "<init>", "(I)V"⟩, "MemoryMap"), ("MemoryMap$Block", 15, ⟨"MemoryMap$Copy", "<init>", "(I)V"⟩, "MemoryMap"), ("MemoryMap", 139, ⟨"MemoryMap$Block", "hasOctet", "(I)Z"⟩, "MemoryMap"), ("MemoryMap$Block", 25, ⟨"MemoryMap", "isWithin", "(JJJ)Z"⟩, "MemoryMap"), ("MemoryMap", 147, ⟨"MemoryMap$Copy", "setOctet", "(IB)V"⟩, "MemoryMap"), ("MemoryMap", 158, ⟨"MemoryMap$Copy", "flip", "(II)I"⟩, "MemoryMap"), ("MemoryMap", 162, ⟨"MemoryMap$Block", "repair", "()I"⟩, "MemoryMap"), ("MemoryMap$Block", 31, ⟨"MemoryMap$Copy", "isGood", "()Z"⟩, "MemoryMap"), ("MemoryMap$Block", 35, ⟨"MemoryMap$Copy", "become", "(LMemoryMap$Copy;)V"⟩, "MemoryMap"), ("MemoryMap$Block", 39, ⟨"MemoryMap$Copy", "clear", "()V"⟩, "MemoryMap"), ("MemoryMap", 177, ⟨"MemoryMap$Placements", "countMovedSince", "(I)I"⟩, "MemoryMap"), ("MemoryMap", 84, ⟨"MemoryMap$Sections", "add", "(III)I"⟩, "MemoryMap")]
def NSf : List (String × Nat × String × String × String × String) := [("MemoryMap", 187, "MemoryMap$Regions", "starts", "[I", "MemoryMap"), ("MemoryMap", 196, "MemoryMap$Regions", "ends", "[I", "MemoryMap"), ("MemoryMap", 180, "MemoryMap$Regions", "count", "I", "MemoryMap"), ("MemoryMap", 171, "MemoryMap$Sections", "lengths", "[I", "MemoryMap"), ("MemoryMap", 190, "MemoryMap$Sections", "aligns", "[I", "MemoryMap"), ("MemoryMap", 181, "MemoryMap$Sections", "kinds", "[I", "MemoryMap"), ("MemoryMap", 88, "MemoryMap$Sections", "greatestFirst", "[I", "MemoryMap"), ("MemoryMap", 74, "MemoryMap$Sections", "count", "I", "MemoryMap"), ("MemoryMap", 105, "MemoryMap$Placements", "last", "[I", "MemoryMap"), ("MemoryMap", 100, "MemoryMap$Placements", "lastCount", "I", "MemoryMap"), ("MemoryMap", 174, "MemoryMap$Placements", "keptCount", "I", "MemoryMap"), ("MemoryMap", 112, "MemoryMap$Functions", "stacks", "[I", "MemoryMap"), ("MemoryMap", 143, "MemoryMap$Block", "first", "LMemoryMap$Copy;", "MemoryMap"), ("MemoryMap", 153, "MemoryMap$Block", "second", "LMemoryMap$Copy;", "MemoryMap")]
/-- the class of rows of rows is there -/
def va_AOA (t : FieldType) (U : State) : Prop := (Cond.arrayOver (.array t)).before #[] U = true
theorem va_AOA.use {t : FieldType} {A : Array Value} {U : State} (h : va_AOA t U) : (Cond.arrayOver (.array t)).before A U = true := h
theorem va_AOA.moved {t : FieldType} {u U : State} (hvm : u.vm.Alike U.vm) (h : va_AOA t u) : va_AOA t U := by
  obtain ⟨comp, c, k, h1, h2, h3, h4, h5⟩ := arrayOverA_spec h
  obtain ⟨k', hk', he⟩ := hvm.2.2 _ _ h3
  have hi : (U.vm.classes.findIdx? fun (x : Class) => match x.kind with | .array component _ => component == comp | _ => false) = some c := by
    have e1 := va_idx_bare U.vm comp
    have e2 := va_idx_bare u.vm comp
    have eb : U.vm.bare = u.vm.bare := by first | exact hvm.bare_eq | exact hvm.bare_eq.symm
    rw [eb] at e1
    exact (e1.symm.trans e2).trans h2
  have hkind : k'.kind = .array comp (.array t) := by rw [he]; exact h4
  have f1 : U.vm.findClass (FieldType.array t).toString = some comp := by rw [hvm.findClass]; exact h1
  have f2 : U.vm.findClass ("[" ++ (FieldType.array t).toString) = some c := by rw [hvm.findClass]; exact h5
  unfold va_AOA Cond.before Cond.holds
  simp only [Cond.value]
  rw [f1, Option.bind_some]
  refine (congrArg (fun o : Option Nat => (o.bind (fun c => (U.vm.classes[c]?).map fun (k : Class) => match k.kind with | .array _ ty => decide (ty = FieldType.array t) && decide (U.vm.findClass ("[" ++ (FieldType.array t).toString) = some c) | _ => false) == some true)) hi).trans ?_
  simp [hk', hkind, f2]
def NSd : List MethodName := [⟨"java/lang/Exception", "<init>", "(Ljava/lang/String;)V"⟩, ⟨"java/lang/IndexOutOfBoundsException", "<init>", "(Ljava/lang/String;)V"⟩, ⟨"java/lang/RuntimeException", "<init>", "(Ljava/lang/String;)V"⟩, ⟨"java/lang/Throwable", "<init>", "(Ljava/lang/String;)V"⟩]
def NSc : List (String × String) := [("java/lang/ArithmeticException", "java/lang/ArithmeticException"), ("java/lang/ArrayIndexOutOfBoundsException", "java/lang/ArrayIndexOutOfBoundsException")]
/-- what the tables say of the nest mates' links, of the array classes over classes, and what a throw needs beside its words -/
def NS (U : State) : Prop := (∀ q ∈ NSm, va_Nw (.methodLinkNest q.1 q.2.1 q.2.2.1 q.2.2.2) U) ∧ (∀ q ∈ NSf, va_Nw (.fieldLinkNest q.1 q.2.1 q.2.2.1 q.2.2.2.1 q.2.2.2.2.1 q.2.2.2.2.2) U) ∧ (∀ q ∈ NSd, va_Nw (.declares q) U) ∧ (∀ q ∈ NSc, va_Nw (.castable q.1 q.2) U) ∧ va_AOA .int U ∧ va_AO "MemoryMap$Block" U
theorem NS.warm {s U : State} (hW : s.WarmedH U.vm) (h : NS s) : NS U := ⟨fun q hq => va_Nw.warmM hW (h.1 q hq), fun q hq => va_Nw.warmF hW (h.2.1 q hq), fun q hq => va_Nw.warmD hW (h.2.2.1 q hq), fun q hq => va_Nw.warmC hW (h.2.2.2.1 q hq), h.2.2.2.2.1.moved hW.alike, h.2.2.2.2.2.moved hW.alike⟩
theorem NS.same {u U : State} (e : u.vm = U.vm) (h : NS u) : NS U := ⟨fun q hq => va_Nw.same rfl e (h.1 q hq), fun q hq => va_Nw.same rfl e (h.2.1 q hq), fun q hq => va_Nw.same rfl e (h.2.2.1 q hq), fun q hq => va_Nw.same rfl e (h.2.2.2.1 q hq), h.2.2.2.2.1.moved (e ▸ Vm.Alike.refl u.vm), h.2.2.2.2.2.moved (e ▸ Vm.Alike.refl u.vm)⟩
theorem NS.m {s : State} (h : NS s) {own : String} {index : Nat} {y : MethodName} {host : String} (k : Nat) (hk : NSm[k]? = some (own, index, y, host)) : va_Nw (.methodLinkNest own index y host) s := h.1 _ (List.mem_of_getElem? hk)
theorem NS.f {s : State} (h : NS s) {args : Array Value} {own : String} {index : Nat} {r n d host : String} (k : Nat) (hk : NSf[k]? = some (own, index, r, n, d, host)) : (Cond.fieldLinkNest own index r n d host).before args s = true := va_Nw.use rfl (h.2.1 _ (List.mem_of_getElem? hk))
def Wd (D : va_G) (tys : List (ClassId × FieldType)) (ws : va_W) (sz : Nat) (U : State) : Prop := U.heap.size = sz ∧ va_P D vwCl ws U.heap ∧ va_K D vwCl tys U ∧ va_D (fun _ => True) ws ∧ NS U
def We (D : va_G) (A : Nat → Prop) (ws : va_W) (t : State) : Prop := va_P D vwCl ws t.heap ∧ va_D A ws
theorem Wd.blind {D : va_G} {tys : List (ClassId × FieldType)} {ws : va_W} {sz : Nat} {av : List Value} : FrameBlind (va_Pc av (Wd D tys ws sz)) := fun a U g mk q => by
  obtain ⟨q0, q1, qP, qK, qD, qN⟩ := q
  exact ⟨q0, q1, qP, va_K.moved (u := U) (U := U.calling g mk a) (Vm.Alike.refl U.vm) qK, qD, NS.same (u := U) rfl qN⟩
theorem fm_of {α : Type} {is : List Nat} {f : Nat → Option α} {wc : List α} (h : is.map f = wc.map some) : is.filterMap f = wc := by
  have e : is.filterMap f = (is.map f).filterMap id := by rw [List.filterMap_map]; rfl
  rw [e, h, List.filterMap_map]
  simp
/-- contracts that change the world: int, long, void, a reference or null -/
def Mi (l : Launch) (y : MethodName) (wsM : List Cond) (rm : Room) (D : va_G) (tys : List (ClassId × FieldType)) (av : List Value) (ws : va_W) {S : Type} (post : Int32 → S → Prop) (ws' : S → va_W) : Prop :=
  ∀ sz, Met l y wsM rm (va_Pc av (Wd D tys ws sz)) (va_Qi post (fun u t => We D (va_A ws sz) (ws' u) t) (va_A ws sz)) rm.cells rm.slots (va_A ws sz)
def Ml (l : Launch) (y : MethodName) (wsM : List Cond) (rm : Room) (D : va_G) (tys : List (ClassId × FieldType)) (av : List Value) (ws : va_W) {S : Type} (post : Int64 → S → Prop) (ws' : S → va_W) : Prop :=
  ∀ sz, Met l y wsM rm (va_Pc av (Wd D tys ws sz)) (va_Ql post (fun u t => We D (va_A ws sz) (ws' u) t) (va_A ws sz)) rm.cells rm.slots (va_A ws sz)
def Mv (l : Launch) (y : MethodName) (wsM : List Cond) (rm : Room) (D : va_G) (tys : List (ClassId × FieldType)) (av : List Value) (ws : va_W) {S : Type} (post : S → Prop) (ws' : S → va_W) : Prop :=
  ∀ sz, Met l y wsM rm (va_Pc av (Wd D tys ws sz)) (va_Qv post (fun u t => We D (va_A ws sz) (ws' u) t) (va_A ws sz)) rm.cells rm.slots (va_A ws sz)
/-- contracts that leave the heap alone -/
def Qi (l : Launch) (y : MethodName) (wsM : List Cond) (rm : Room) (D : va_G) (tys : List (ClassId × FieldType)) (av : List Value) (ws : va_W) (post : Int32 → Prop) : Prop :=
  ∀ sz, Met l y wsM rm (va_Pc av (Wd D tys ws sz)) (vp_Si post) 0 0 (fun _ => False)
def Ql (l : Launch) (y : MethodName) (wsM : List Cond) (rm : Room) (D : va_G) (tys : List (ClassId × FieldType)) (av : List Value) (ws : va_W) (post : Int64 → Prop) : Prop :=
  ∀ sz, Met l y wsM rm (va_Pc av (Wd D tys ws sz)) (vp_Sl post) 0 0 (fun _ => False)
def Qq (l : Launch) (y : MethodName) (wsM : List Cond) (rm : Room) (D : va_G) (tys : List (ClassId × FieldType)) (av : List Value) (ws : va_W) (post : Option Nat → Prop) : Prop :=
  ∀ sz, Met l y wsM rm (va_Pc av (Wd D tys ws sz)) (va_Sq post) 0 0 (fun _ => False)
/-- what a body has at its entry -/
def Bd (l : Launch) (wsM : List Cond) (cc : ByteArray) (maxL : Nat) (ret : Option FieldType) (own : String) (D : va_G) (tys : List (ClassId × FieldType)) (p : Program) (s : State) (m : MethodId) (args : Array Value) (meth : Method) (c : Code) : Prop :=
  p.tables.exec = Jvm.exec ∧ c.code = cc ∧ meth.sig.returnType = ret ∧ (∀ w ∈ wsM, w.before args s = true) ∧ s.vm.findClass own = some m.cls ∧ meth.locks = false ∧ c.maxLocals = maxL ∧ NS s ∧ va_K D vwCl tys s
theorem start_Mi {l : Launch} {y : MethodName} {wsM wsr : List Cond} {rm : Room} {D : va_G} {tys : List (ClassId × FieldType)} {av : List Value} {ws : va_W} {S : Type} {post : Int32 → S → Prop} {ws' : S → va_W} (cc : ByteArray) (maxL : Nat) (ret : Option FieldType) (hy : plainName y.cls = true) (hw : wsM = Cond.code y cc maxL ret :: wsr) (hn : (lg_sl av).length ≤ maxL)
    (body : ∀ (p : Program) (e : Env) (s : State) (m : MethodId) (below : List Frame) (meth : Method) (c : Code) (A : Nat → Prop) (ls : Array Slot), Bd l wsM cc maxL ret y.cls D tys p s m av.toArray meth c → meth.name = y.name → va_P D vwCl ws s.heap → va_D A ws → va_S A s.heap s.heap [] → (∀ q : Nat, s.heap.size ≤ q → A q) → lv_has ls maxL (lv_args 0 av) →
      W p l e rm s m av.toArray below meth c s.heap [] 0 0 (MQ below (va_Qi post (fun u t => We D A (ws' u) t) A) av.toArray s rm.cells rm.slots A) (F0 m 0 ls [])) : Mi l y wsM rm D tys av ws post ws' := by
  intro sz
  refine Met.ofW (cc := cc) (maxL := maxL) (ret := ret) hy hw ?_
  intro p e s m args below meth c s₁ B hml hv
  obtain ⟨rfl, hsz, hP, hK, hD0, hN⟩ := hv
  subst hsz
  have hD := hD0.self (sz := s.heap.size)
  rw [lg_entry_eq]
  exact body p e s m below meth c (va_A ws s.heap.size) _ ⟨B.exec, B.bytes, B.returns, atoms_spec (ws := wsM) B.pre, findClass_of_methodNamed B.named, B.notSynchronized, hml, hN, hK⟩ (name_of_methodNamed B.named B.method).1 hP hD va_S.rf (fun q h => Or.inr h) (lv_entry av hn)
theorem start_Ml {l : Launch} {y : MethodName} {wsM wsr : List Cond} {rm : Room} {D : va_G} {tys : List (ClassId × FieldType)} {av : List Value} {ws : va_W} {S : Type} {post : Int64 → S → Prop} {ws' : S → va_W} (cc : ByteArray) (maxL : Nat) (ret : Option FieldType) (hy : plainName y.cls = true) (hw : wsM = Cond.code y cc maxL ret :: wsr) (hn : (lg_sl av).length ≤ maxL)
    (body : ∀ (p : Program) (e : Env) (s : State) (m : MethodId) (below : List Frame) (meth : Method) (c : Code) (A : Nat → Prop) (ls : Array Slot), Bd l wsM cc maxL ret y.cls D tys p s m av.toArray meth c → meth.name = y.name → va_P D vwCl ws s.heap → va_D A ws → va_S A s.heap s.heap [] → (∀ q : Nat, s.heap.size ≤ q → A q) → lv_has ls maxL (lv_args 0 av) →
      W p l e rm s m av.toArray below meth c s.heap [] 0 0 (MQ below (va_Ql post (fun u t => We D A (ws' u) t) A) av.toArray s rm.cells rm.slots A) (F0 m 0 ls [])) : Ml l y wsM rm D tys av ws post ws' := by
  intro sz
  refine Met.ofW (cc := cc) (maxL := maxL) (ret := ret) hy hw ?_
  intro p e s m args below meth c s₁ B hml hv
  obtain ⟨rfl, hsz, hP, hK, hD0, hN⟩ := hv
  subst hsz
  have hD := hD0.self (sz := s.heap.size)
  rw [lg_entry_eq]
  exact body p e s m below meth c (va_A ws s.heap.size) _ ⟨B.exec, B.bytes, B.returns, atoms_spec (ws := wsM) B.pre, findClass_of_methodNamed B.named, B.notSynchronized, hml, hN, hK⟩ (name_of_methodNamed B.named B.method).1 hP hD va_S.rf (fun q h => Or.inr h) (lv_entry av hn)
theorem start_Mv {l : Launch} {y : MethodName} {wsM wsr : List Cond} {rm : Room} {D : va_G} {tys : List (ClassId × FieldType)} {av : List Value} {ws : va_W} {S : Type} {post : S → Prop} {ws' : S → va_W} (cc : ByteArray) (maxL : Nat) (ret : Option FieldType) (hy : plainName y.cls = true) (hw : wsM = Cond.code y cc maxL ret :: wsr) (hn : (lg_sl av).length ≤ maxL)
    (body : ∀ (p : Program) (e : Env) (s : State) (m : MethodId) (below : List Frame) (meth : Method) (c : Code) (A : Nat → Prop) (ls : Array Slot), Bd l wsM cc maxL ret y.cls D tys p s m av.toArray meth c → meth.name = y.name → va_P D vwCl ws s.heap → va_D A ws → va_S A s.heap s.heap [] → (∀ q : Nat, s.heap.size ≤ q → A q) → lv_has ls maxL (lv_args 0 av) →
      W p l e rm s m av.toArray below meth c s.heap [] 0 0 (MQ below (va_Qv post (fun u t => We D A (ws' u) t) A) av.toArray s rm.cells rm.slots A) (F0 m 0 ls [])) : Mv l y wsM rm D tys av ws post ws' := by
  intro sz
  refine Met.ofW (cc := cc) (maxL := maxL) (ret := ret) hy hw ?_
  intro p e s m args below meth c s₁ B hml hv
  obtain ⟨rfl, hsz, hP, hK, hD0, hN⟩ := hv
  subst hsz
  have hD := hD0.self (sz := s.heap.size)
  rw [lg_entry_eq]
  exact body p e s m below meth c (va_A ws s.heap.size) _ ⟨B.exec, B.bytes, B.returns, atoms_spec (ws := wsM) B.pre, findClass_of_methodNamed B.named, B.notSynchronized, hml, hN, hK⟩ (name_of_methodNamed B.named B.method).1 hP hD va_S.rf (fun q h => Or.inr h) (lv_entry av hn)
theorem start_Qi {l : Launch} {y : MethodName} {wsM wsr : List Cond} {rm : Room} {D : va_G} {tys : List (ClassId × FieldType)} {av : List Value} {ws : va_W} {post : Int32 → Prop} (cc : ByteArray) (maxL : Nat) (ret : Option FieldType) (hy : plainName y.cls = true) (hw : wsM = Cond.code y cc maxL ret :: wsr) (hn : (lg_sl av).length ≤ maxL)
    (body : ∀ (p : Program) (e : Env) (s : State) (m : MethodId) (below : List Frame) (meth : Method) (c : Code) (ls : Array Slot), Bd l wsM cc maxL ret y.cls D tys p s m av.toArray meth c → va_P D vwCl ws s.heap → va_D (fun _ => True) ws → lv_has ls maxL (lv_args 0 av) →
      W p l e rm s m av.toArray below meth c s.heap [] 0 0 (MQ below (vp_Si post) av.toArray s 0 0 (fun _ => False)) (F0 m 0 ls [])) : Qi l y wsM rm D tys av ws post := by
  intro sz
  refine Met.ofW (cc := cc) (maxL := maxL) (ret := ret) hy hw ?_
  intro p e s m args below meth c s₁ B hml hv
  obtain ⟨rfl, hsz, hP, hK, hD, hN⟩ := hv
  rw [lg_entry_eq]
  exact body p e s m below meth c _ ⟨B.exec, B.bytes, B.returns, atoms_spec (ws := wsM) B.pre, findClass_of_methodNamed B.named, B.notSynchronized, hml, hN, hK⟩ hP hD (lv_entry av hn)
theorem start_Ql {l : Launch} {y : MethodName} {wsM wsr : List Cond} {rm : Room} {D : va_G} {tys : List (ClassId × FieldType)} {av : List Value} {ws : va_W} {post : Int64 → Prop} (cc : ByteArray) (maxL : Nat) (ret : Option FieldType) (hy : plainName y.cls = true) (hw : wsM = Cond.code y cc maxL ret :: wsr) (hn : (lg_sl av).length ≤ maxL)
    (body : ∀ (p : Program) (e : Env) (s : State) (m : MethodId) (below : List Frame) (meth : Method) (c : Code) (ls : Array Slot), Bd l wsM cc maxL ret y.cls D tys p s m av.toArray meth c → va_P D vwCl ws s.heap → va_D (fun _ => True) ws → lv_has ls maxL (lv_args 0 av) →
      W p l e rm s m av.toArray below meth c s.heap [] 0 0 (MQ below (vp_Sl post) av.toArray s 0 0 (fun _ => False)) (F0 m 0 ls [])) : Ql l y wsM rm D tys av ws post := by
  intro sz
  refine Met.ofW (cc := cc) (maxL := maxL) (ret := ret) hy hw ?_
  intro p e s m args below meth c s₁ B hml hv
  obtain ⟨rfl, hsz, hP, hK, hD, hN⟩ := hv
  rw [lg_entry_eq]
  exact body p e s m below meth c _ ⟨B.exec, B.bytes, B.returns, atoms_spec (ws := wsM) B.pre, findClass_of_methodNamed B.named, B.notSynchronized, hml, hN, hK⟩ hP hD (lv_entry av hn)
theorem start_Qq {l : Launch} {y : MethodName} {wsM wsr : List Cond} {rm : Room} {D : va_G} {tys : List (ClassId × FieldType)} {av : List Value} {ws : va_W} {post : Option Nat → Prop} (cc : ByteArray) (maxL : Nat) (ret : Option FieldType) (hy : plainName y.cls = true) (hw : wsM = Cond.code y cc maxL ret :: wsr) (hn : (lg_sl av).length ≤ maxL)
    (body : ∀ (p : Program) (e : Env) (s : State) (m : MethodId) (below : List Frame) (meth : Method) (c : Code) (ls : Array Slot), Bd l wsM cc maxL ret y.cls D tys p s m av.toArray meth c → va_P D vwCl ws s.heap → va_D (fun _ => True) ws → lv_has ls maxL (lv_args 0 av) →
      W p l e rm s m av.toArray below meth c s.heap [] 0 0 (MQ below (va_Sq post) av.toArray s 0 0 (fun _ => False)) (F0 m 0 ls [])) : Qq l y wsM rm D tys av ws post := by
  intro sz
  refine Met.ofW (cc := cc) (maxL := maxL) (ret := ret) hy hw ?_
  intro p e s m args below meth c s₁ B hml hv
  obtain ⟨rfl, hsz, hP, hK, hD, hN⟩ := hv
  rw [lg_entry_eq]
  exact body p e s m below meth c _ ⟨B.exec, B.bytes, B.returns, atoms_spec (ws := wsM) B.pre, findClass_of_methodNamed B.named, B.notSynchronized, hml, hN, hK⟩ hP hD (lv_entry av hn)
section CC
variable {p : Program} {l : Launch} {e : Env} {R : Room} {s : State} {m : MethodId} {args : Array Value} {below : List Frame} {meth : Method} {c : Code} {H : Heap} {locs : List Loc} {cells slots mc ms : Nat} {Q : State → Prop}
variable {cc : ByteArray} {pc : Nat} {ls : Array Slot} {rest st0 : List Value} {D : va_G} {A A0 : Nat → Prop} {a : Array Value} {tys : List (ClassId × FieldType)} {ws wc wr : va_W} {H0 : Heap} {S : Type}
theorem preV {b : Nat} {As : List Value} {C : String} {q : vw_C} {fs : List Value} (hP : va_P D vwCl ws H) (hD : va_D A ws) (hK : va_K D vwCl tys s) (hN : NS s) (is : List Nat) (ci q0 : Nat) (hC : is.map (fun i => ws[i]?) = wc.map some) (hnd : va_nd is = true) (hc : vwCl[ci]? = some q) (he : ws[q0]? = some (b, .inr (ci, fs))) (hq : q.1 = C) : PreV s H C b (va_Pc (.ref b :: As) (Wd D tys wc H.size)) As := by
  subst hq
  exact ⟨Wd.blind, va_recv hK hP hc he, fun U hU hW => ⟨rfl, by rw [hU], by rw [hU]; exact hP.sub is (fm_of hC), va_K.moved hW.alike hK, (hD.sub is hnd hC).weaken (fun _ _ _ _ => trivial), NS.warm hW hN⟩⟩
theorem preS {As : List Value} (hP : va_P D vwCl ws H) (hD : va_D A ws) (hK : va_K D vwCl tys s) (hN : NS s) (is : List Nat) (hC : is.map (fun i => ws[i]?) = wc.map some) (hnd : va_nd is = true) : PreS s H (va_Pc As (Wd D tys wc H.size)) As :=
  ⟨Wd.blind, fun U hU hW => ⟨rfl, by rw [hU], by rw [hU]; exact hP.sub is (fm_of hC), va_K.moved hW.alike hK, (hD.sub is hnd hC).weaken (fun _ _ _ _ => trivial), NS.warm hW hN⟩⟩
theorem call_Mi {post : Int32 → S → Prop} {wc' wn : S → va_W} (hr : va_Run p l e R s m args below meth c H locs cells slots mc ms (F0 m pc ls st0) rest (va_Qi post (fun u t => We D (va_A wc H.size) (wc' u) t) (va_A wc H.size) a) (va_A wc H.size))
    (hP : va_P D vwCl ws H) (hD : va_D A0 ws) (hS : va_S A0 H0 H locs) (hA : ∀ q, H0.size ≤ q → A0 q) (isC isR perm : List Nat) (hC : isC.map (fun i => ws[i]?) = wc.map some) (hR : isR.map (fun i => ws[i]?) = wr.map some) (hn : va_nd isR = true) (hdis : ∀ i ∈ isR, i ∉ isC) (hp : ∀ u, perm.map (fun i => (wr ++ wc' u)[i]?) = (wn u).map some) (hpn : va_nd perm = true)
    (kk : ∀ (r : Int32) (u : S) (H1 : Heap) (locs1 : List Loc), post r u → va_P D vwCl (wn u) H1 → va_D A0 (wn u) → va_S A0 H0 H1 locs1 → H.size ≤ H1.size → W p l e R s m args below meth c H1 locs1 (cells + mc) (slots + ms) Q (F0 m (pc + 3) ls (.int r :: rest))) : W p l e R s m args below meth c H locs cells slots Q (F0 m pc ls st0) := by
  have hF := va_free hD hS hA isC hC
  refine va_calli hr hS (fun q _ h => hF q h) hF (fun r u t H1 locs1 ht hvm hw hB hz1 hk1 hS1 => ?_)
  obtain ⟨hP1, hD1⟩ := hB
  rw [ht] at hP1
  obtain ⟨hP2, hD2⟩ := va_join (wr := wr) (w1 := wc' u) hP hD isC isR hC hR hn hdis hk1 hF hP1 hD1
  exact kk r u H1 locs1 hw (hP2.sub perm (fm_of (hp u))) (hD2.sub perm hpn (hp u)) hS1 hz1
theorem call_Ml {post : Int64 → S → Prop} {wc' wn : S → va_W} (hr : va_Run p l e R s m args below meth c H locs cells slots mc ms (F0 m pc ls st0) rest (va_Ql post (fun u t => We D (va_A wc H.size) (wc' u) t) (va_A wc H.size) a) (va_A wc H.size))
    (hP : va_P D vwCl ws H) (hD : va_D A0 ws) (hS : va_S A0 H0 H locs) (hA : ∀ q, H0.size ≤ q → A0 q) (isC isR perm : List Nat) (hC : isC.map (fun i => ws[i]?) = wc.map some) (hR : isR.map (fun i => ws[i]?) = wr.map some) (hn : va_nd isR = true) (hdis : ∀ i ∈ isR, i ∉ isC) (hp : ∀ u, perm.map (fun i => (wr ++ wc' u)[i]?) = (wn u).map some) (hpn : va_nd perm = true)
    (kk : ∀ (r : Int64) (u : S) (H1 : Heap) (locs1 : List Loc), post r u → va_P D vwCl (wn u) H1 → va_D A0 (wn u) → va_S A0 H0 H1 locs1 → H.size ≤ H1.size → W p l e R s m args below meth c H1 locs1 (cells + mc) (slots + ms) Q (F0 m (pc + 3) ls (.long r :: rest))) : W p l e R s m args below meth c H locs cells slots Q (F0 m pc ls st0) := by
  have hF := va_free hD hS hA isC hC
  refine va_calll hr hS (fun q _ h => hF q h) hF (fun r u t H1 locs1 ht hvm hw hB hz1 hk1 hS1 => ?_)
  obtain ⟨hP1, hD1⟩ := hB
  rw [ht] at hP1
  obtain ⟨hP2, hD2⟩ := va_join (wr := wr) (w1 := wc' u) hP hD isC isR hC hR hn hdis hk1 hF hP1 hD1
  exact kk r u H1 locs1 hw (hP2.sub perm (fm_of (hp u))) (hD2.sub perm hpn (hp u)) hS1 hz1
theorem call_Mv {post : S → Prop} {wc' wn : S → va_W} (hr : va_Run p l e R s m args below meth c H locs cells slots mc ms (F0 m pc ls st0) rest (va_Qv post (fun u t => We D (va_A wc H.size) (wc' u) t) (va_A wc H.size) a) (va_A wc H.size))
    (hP : va_P D vwCl ws H) (hD : va_D A0 ws) (hS : va_S A0 H0 H locs) (hA : ∀ q, H0.size ≤ q → A0 q) (isC isR perm : List Nat) (hC : isC.map (fun i => ws[i]?) = wc.map some) (hR : isR.map (fun i => ws[i]?) = wr.map some) (hn : va_nd isR = true) (hdis : ∀ i ∈ isR, i ∉ isC) (hp : ∀ u, perm.map (fun i => (wr ++ wc' u)[i]?) = (wn u).map some) (hpn : va_nd perm = true)
    (kk : ∀ (u : S) (H1 : Heap) (locs1 : List Loc), post u → va_P D vwCl (wn u) H1 → va_D A0 (wn u) → va_S A0 H0 H1 locs1 → H.size ≤ H1.size → W p l e R s m args below meth c H1 locs1 (cells + mc) (slots + ms) Q (F0 m (pc + 3) ls (rest))) : W p l e R s m args below meth c H locs cells slots Q (F0 m pc ls st0) := by
  have hF := va_free hD hS hA isC hC
  refine va_callv hr hS (fun q _ h => hF q h) hF (fun u t H1 locs1 ht hvm hw hB hz1 hk1 hS1 => ?_)
  obtain ⟨hP1, hD1⟩ := hB
  rw [ht] at hP1
  obtain ⟨hP2, hD2⟩ := va_join (wr := wr) (w1 := wc' u) hP hD isC isR hC hR hn hdis hk1 hF hP1 hD1
  exact kk u H1 locs1 hw (hP2.sub perm (fm_of (hp u))) (hD2.sub perm hpn (hp u)) hS1 hz1
-- ends
theorem ret_Mi {post : Int32 → S → Prop} {ws' : S → va_W} (hx : p.tables.exec = Jvm.exec) (hb : c.code = cc) (hr : meth.sig.returnType = some .int) (hlk : meth.locks = false) {v : Int32} (u : S) (hv : post v u) (hP : va_P D vwCl (ws' u) H) (hD : va_D A (ws' u)) (hS : va_S A s.heap H locs) (hc : cells ≤ mc) (hs : slots ≤ ms) (hdg : decode cc pc = .ok (.ireturn, 1)) : W p l e R s m args below meth c H locs cells slots (MQ below (va_Qi post (fun u t => We D A (ws' u) t) A) args s mc ms A) (F0 m pc ls [.int v]) :=
  W.widen (k := mc) (n := ms) hc hs (W.iret (v := v) hx hb hr (fun t ht hW => ⟨⟨v, u, rfl, hv, ⟨by rw [ht]; exact hP, hD⟩⟩, hS.F ht⟩) hS.2.2 hdg hlk)
theorem ret_Mz {post : Int32 → S → Prop} {ws' : S → va_W} {ty : FieldType} (hx : p.tables.exec = Jvm.exec) (hb : c.code = cc) (hr : meth.sig.returnType = some ty) (hlk : meth.locks = false) {v : Int32} (hn : narrow ty (.int v) = .int v) (u : S) (hv : post v u) (hP : va_P D vwCl (ws' u) H) (hD : va_D A (ws' u)) (hS : va_S A s.heap H locs) (hc : cells ≤ mc) (hs : slots ≤ ms) (hdg : decode cc pc = .ok (.ireturn, 1)) : W p l e R s m args below meth c H locs cells slots (MQ below (va_Qi post (fun u t => We D A (ws' u) t) A) args s mc ms A) (F0 m pc ls [.int v]) :=
  W.widen (k := mc) (n := ms) hc hs (W.zret (v := v) hx hb hr hn (fun t ht hW => ⟨⟨v, u, rfl, hv, ⟨by rw [ht]; exact hP, hD⟩⟩, hS.F ht⟩) hS.2.2 hdg hlk)
theorem ret_Ml {post : Int64 → S → Prop} {ws' : S → va_W} (hx : p.tables.exec = Jvm.exec) (hb : c.code = cc) (hr : meth.sig.returnType = some .long) (hlk : meth.locks = false) {v : Int64} (u : S) (hv : post v u) (hP : va_P D vwCl (ws' u) H) (hD : va_D A (ws' u)) (hS : va_S A s.heap H locs) (hc : cells ≤ mc) (hs : slots ≤ ms) (hdg : decode cc pc = .ok (.lreturn, 1)) : W p l e R s m args below meth c H locs cells slots (MQ below (va_Ql post (fun u t => We D A (ws' u) t) A) args s mc ms A) (F0 m pc ls [.long v]) :=
  W.widen (k := mc) (n := ms) hc hs (W.lret (v := v) hx hb hr (fun t ht hW => ⟨⟨v, u, rfl, hv, ⟨by rw [ht]; exact hP, hD⟩⟩, hS.F ht⟩) hS.2.2 hdg hlk)
theorem ret_Mv {post : S → Prop} {ws' : S → va_W} (hx : p.tables.exec = Jvm.exec) (hb : c.code = cc) (hr : meth.sig.returnType = none) (hlk : meth.locks = false) (u : S) (hv : post u) (hP : va_P D vwCl (ws' u) H) (hD : va_D A (ws' u)) (hS : va_S A s.heap H locs) (hc : cells ≤ mc) (hs : slots ≤ ms) (hdg : decode cc pc = .ok (.return_, 1)) : W p l e R s m args below meth c H locs cells slots (MQ below (va_Qv post (fun u t => We D A (ws' u) t) A) args s mc ms A) (F0 m pc ls []) :=
  W.widen (k := mc) (n := ms) hc hs (W.vret hx hb hr (fun t ht hW => ⟨⟨u, rfl, hv, ⟨by rw [ht]; exact hP, hD⟩⟩, hS.F ht⟩) hS.2.2 hdg hlk)
theorem ret_Qi {post : Int32 → Prop} (hx : p.tables.exec = Jvm.exec) (hb : c.code = cc) (hr : meth.sig.returnType = some .int) (hlk : meth.locks = false) {v : Int32} (hv : post v) (hdg : decode cc pc = .ok (.ireturn, 1)) : W p l e R s m args below meth c s.heap [] 0 0 (MQ below (vp_Si post) args s 0 0 (fun _ => False)) (F0 m pc ls [.int v]) :=
  W.iret (v := v) hx hb hr (fun t ht hW => ⟨v, rfl, hv, ht⟩) (fun _ h => by cases h) hdg hlk
theorem ret_Qz {post : Int32 → Prop} {ty : FieldType} (hx : p.tables.exec = Jvm.exec) (hb : c.code = cc) (hr : meth.sig.returnType = some ty) (hlk : meth.locks = false) {v : Int32} (hn : narrow ty (.int v) = .int v) (hv : post v) (hdg : decode cc pc = .ok (.ireturn, 1)) : W p l e R s m args below meth c s.heap [] 0 0 (MQ below (vp_Si post) args s 0 0 (fun _ => False)) (F0 m pc ls [.int v]) :=
  W.zret (v := v) hx hb hr hn (fun t ht hW => ⟨v, rfl, hv, ht⟩) (fun _ h => by cases h) hdg hlk
theorem ret_Ql {post : Int64 → Prop} (hx : p.tables.exec = Jvm.exec) (hb : c.code = cc) (hr : meth.sig.returnType = some .long) (hlk : meth.locks = false) {v : Int64} (hv : post v) (hdg : decode cc pc = .ok (.lreturn, 1)) : W p l e R s m args below meth c s.heap [] 0 0 (MQ below (vp_Sl post) args s 0 0 (fun _ => False)) (F0 m pc ls [.long v]) :=
  W.lret (v := v) hx hb hr (fun t ht hW => ⟨v, rfl, hv, ht⟩) (fun _ h => by cases h) hdg hlk
theorem ret_Qq {post : Option Nat → Prop} {rt : FieldType} (hx : p.tables.exec = Jvm.exec) (hb : c.code = cc) (hr : meth.sig.returnType = some rt) (hrt : (∃ n, rt = .object n) ∨ ∃ t, rt = .array t) (hlk : meth.locks = false) {v : Value} (r : Option Nat) (hvr : v = va_rf r) (hv : post r) (hdg : decode cc pc = .ok (.areturn, 1)) : W p l e R s m args below meth c s.heap [] 0 0 (MQ below (va_Sq post) args s 0 0 (fun _ => False)) (F0 m pc ls [v]) := by
  subst hvr
  exact W.aret hx hb hr hrt (va_rf_or r) (fun t ht hW => ⟨r, rfl, hv, ht⟩) (fun _ h => by cases h) hdg hlk
end CC
