/-! ===== CONTRACTS over J: CI (int, boolean, char), CV (void), CL (long), CR (a cell), CD (double); their bodies; their calls ===== -/
section CON
/-- what a caller must know of a callee's words and room -/
def Cal (y : MethodName) (ws : List Cond) (rm : Room) (void : Bool) (fr lo n mc ms : Nat) : Prop :=
  rm.cells = mc ∧ rm.slots = ms ∧ rm.frames + 1 ≤ fr ∧ (∃ (bytes : ByteArray) (maxL : Nat) (ret : Option FieldType) (ws' : List Cond), ws = Cond.code y bytes maxL ret :: ws' ∧ 8 + (maxL + 11) + rm.locals ≤ lo ∧ (void = true → ret = none)) ∧ y.cls ≠ "java/lang/invoke/MethodHandle" ∧ y.cls ≠ "java/lang/invoke/VarHandle" ∧ (parseMethodDescriptor y.desc).map (fun d => d.parameters.length) = some n
def PreB (D : va_G) (g : GT) (z : ZT) (wc : va_W) (sz : Nat) : State → Prop := fun U => U.heap.size = sz ∧ va_P D vwCl wc U.heap ∧ va_K D vwCl (tysG g) U ∧ va_D (fun _ => True) wc ∧ St z (va_A wc sz) U U.heap
def PosB (D : va_G) (w : va_W) (A : Nat → Prop) : State → Prop := fun t => va_P D vwCl w t.heap ∧ va_D A w
theorem PosB_of {D : va_G} {w : va_W} {A : Nat → Prop} {t : State} {H : Heap} (ht : t.heap = H) (hP : va_P D vwCl w H) (hD : va_D A w) : PosB D w A t := by
  unfold PosB
  rw [ht]
  exact ⟨hP, hD⟩
theorem PreB_blind {D : va_G} {g : GT} {z : ZT} {wc : va_W} {sz : Nat} {av : List Value} : FrameBlind (va_Pc av (PreB D g z wc sz)) := by
  intro a U gg mk h
  obtain ⟨h0, h1, h2, h3, h4, h5⟩ := h
  exact ⟨h0, h1, h2, va_K.moved (u := U) (U := U.calling gg mk a) (Vm.Alike.refl U.vm) h3, h4, St.same (u := U) (U := U.calling gg mk a) rfl h5⟩

def CI (l : Launch) (y : MethodName) (ws : List Cond) (fr lo n : Nat) (D : va_G) (g : GT) (z : ZT) (av : List Value) (wc : va_W) {S : Type} (post : Int32 → S → Prop) (w1 : S → va_W) (mc ms : Nat) : Prop :=
  ∃ rm : Room, Cal y ws rm false fr lo n mc ms ∧ ∀ sz : Nat, Met l y ws rm (va_Pc av (PreB D g z wc sz)) (va_Qi post (fun u t => PosB D (w1 u) (va_A wc sz) t) (va_A wc sz)) mc ms (va_A wc sz)
def CL (l : Launch) (y : MethodName) (ws : List Cond) (fr lo n : Nat) (D : va_G) (g : GT) (z : ZT) (av : List Value) (wc : va_W) {S : Type} (post : Int64 → S → Prop) (w1 : S → va_W) (mc ms : Nat) : Prop :=
  ∃ rm : Room, Cal y ws rm false fr lo n mc ms ∧ ∀ sz : Nat, Met l y ws rm (va_Pc av (PreB D g z wc sz)) (va_Ql post (fun u t => PosB D (w1 u) (va_A wc sz) t) (va_A wc sz)) mc ms (va_A wc sz)
def CD (l : Launch) (y : MethodName) (ws : List Cond) (fr lo n : Nat) (D : va_G) (g : GT) (z : ZT) (av : List Value) (wc : va_W) {S : Type} (post : UInt64 → S → Prop) (w1 : S → va_W) (mc ms : Nat) : Prop :=
  ∃ rm : Room, Cal y ws rm false fr lo n mc ms ∧ ∀ sz : Nat, Met l y ws rm (va_Pc av (PreB D g z wc sz)) (va_Qd post (fun u t => PosB D (w1 u) (va_A wc sz) t) (va_A wc sz)) mc ms (va_A wc sz)
def CV (l : Launch) (y : MethodName) (ws : List Cond) (fr lo n : Nat) (D : va_G) (g : GT) (z : ZT) (av : List Value) (wc : va_W) {S : Type} (post : S → Prop) (w1 : S → va_W) (mc ms : Nat) : Prop :=
  ∃ rm : Room, Cal y ws rm true fr lo n mc ms ∧ ∀ sz : Nat, Met l y ws rm (va_Pc av (PreB D g z wc sz)) (va_Qv post (fun u t => PosB D (w1 u) (va_A wc sz) t) (va_A wc sz)) mc ms (va_A wc sz)
def CR (l : Launch) (y : MethodName) (ws : List Cond) (fr lo n : Nat) (D : va_G) (g : GT) (z : ZT) (av : List Value) (wc : va_W) {S : Type} (post : S → Prop) (ra : S → Nat) (w1 : S → va_W) (mc ms : Nat) : Prop :=
  ∃ rm : Room, Cal y ws rm false fr lo n mc ms ∧ ∀ sz : Nat, Met l y ws rm (va_Pc av (PreB D g z wc sz)) (va_Qr post (fun u a t => a = ra u ∧ PosB D (w1 u) (va_A wc sz) t) (va_A wc sz)) mc ms (va_A wc sz)
/-- a body's start: what a walk has at hand -/
theorem Fx_start {l : Launch} (hfl : l.flags = flags0) {D : va_G} {g : GT} {z : ZT} {y : MethodName} {ws ws' : List Cond} {cc : ByteArray} {maxL : Nat} {ret : Option FieldType} {rm : Room} {own : String} {av : List Value} {wc : va_W} {sz : Nat} (hw : ws = Cond.code y cc maxL ret :: ws') (how : y.cls = own) {p : Program} {e : Env} {s : State} {m : MethodId} {args : Array Value} {below : List Frame} {meth : Method} {c : Code} {s₁ : State}
    (B : BodyLoose p l y (headSpec ws rm) cc maxL ret e s m args below meth c s₁) (hml : c.maxLocals = maxL) (hv : va_Pc av (PreB D g z wc sz) args s) :
    Fx l p s m args meth c cc maxL own ws (va_A wc sz) D g z ∧ va_P D vwCl wc s.heap ∧ va_D (va_A wc sz) wc ∧ va_S (va_A wc sz) s.heap s.heap [] := by
  obtain ⟨rfl, hsz, hP, hK, hD0, hSt⟩ := hv
  subst hsz
  subst how
  exact ⟨⟨B.exec, B.bytes, hml, findClass_of_methodNamed B.named, atoms_spec (ws := ws) B.pre, hK, fun q h => Or.inr h, hSt, B.notSynchronized, hfl⟩, hP, hD0.self, va_S.rf⟩
theorem J_start {p : Program} {l : Launch} {e : Env} {R : Room} {s : State} {m : MethodId} {below : List Frame} {meth : Method} {c : Code} {A : Nat → Prop} {D : va_G} {nL : Nat} {Q : State → Prop} {wc : va_W} {av : List Value} (hP : va_P D vwCl wc s.heap) (hD : va_D A wc) (hS : va_S A s.heap s.heap []) (hn : (lg_sl av).length ≤ nL) (k : J p l e R s m av.toArray below meth c A D nL Q 0 0 wc (lv_args 0 av) [] 0) : W p l e R s m av.toArray below meth c s.heap [] 0 0 Q (entryFrame m av.toArray nL) := by
  rw [lg_entry_eq]
  exact k s.heap [] _ hP hD hS (lv_entry av hn)

theorem CI_of {l : Launch} (hfl : l.flags = flags0) {D : va_G} {g : GT} {z : ZT} {y : MethodName} {ws ws' : List Cond} {cc : ByteArray} {maxL : Nat} {ty : FieldType} {av : List Value} {wc : va_W} {S : Type} {post : Int32 → S → Prop} {w1 : S → va_W} (rm : Room) (fr lo n : Nat) {own : String} (hy : plainName y.cls = true) (hw : ws = Cond.code y cc maxL (some ty) :: ws') (how : y.cls = own) (hdd : y.cls ≠ "java/lang/invoke/MethodHandle" ∧ y.cls ≠ "java/lang/invoke/VarHandle" ∧ (parseMethodDescriptor y.desc).map (fun d => d.parameters.length) = some n) (hR : rm.frames + 1 ≤ fr ∧ 8 + (maxL + 11) + rm.locals ≤ lo) (hnn : (lg_sl av).length ≤ maxL) (hnar : ∀ (r : Int32) (u : S), post r u → narrow ty (.int r) = .int r) 
    (body : ∀ (p : Program) (e : Env) (s : State) (m : MethodId) (below : List Frame) (meth : Method) (c : Code) (A : Nat → Prop) (Q : State → Prop), Fx l p s m av.toArray meth c cc maxL own ws A D g z → (∀ (r : Int32) (u : S) (k n : Nat) (lv : List (Nat × Value)) (pc : Nat), decode cc pc = .ok (.ireturn, 1) → k ≤ rm.cells → n ≤ rm.slots → post r u → J p l e rm s m av.toArray below meth c A D maxL Q k n (w1 u) lv [.int r] pc) → J p l e rm s m av.toArray below meth c A D maxL Q 0 0 wc (lv_args 0 av) [] 0) : CI l y ws fr lo n D g z av wc post w1 rm.cells rm.slots := by
  refine ⟨rm, ⟨rfl, rfl, hR.1, ⟨cc, maxL, _, ws', hw, hR.2, fun h => nomatch h⟩, hdd⟩, fun sz => ?_⟩
  refine Met.ofW (cc := cc) (maxL := maxL) (ret := (some ty)) hy hw ?_
  intro p e s m args below meth c s₁ B hml hv
  have hav := hv.1
  obtain ⟨F, hP, hD, hS⟩ := Fx_start hfl hw how B hml hv
  subst hav
  refine J_start hP hD hS hnn (body p e s m below meth c (va_A wc sz) _ F ?_)
  intro r u k n lv pc d hk hn9 hp H locs ls hP hD hS hl
  refine W.widen hk hn9 ?_
  exact W.zret (v := r) F.x F.b (B.returns) (hnar r u hp) (fun t ht hW => ⟨⟨r, u, rfl, hp, PosB_of ht hP hD⟩, hS.F ht⟩) hS.2.2 d F.lk
theorem CL_of {l : Launch} (hfl : l.flags = flags0) {D : va_G} {g : GT} {z : ZT} {y : MethodName} {ws ws' : List Cond} {cc : ByteArray} {maxL : Nat} {av : List Value} {wc : va_W} {S : Type} {post : Int64 → S → Prop} {w1 : S → va_W} (rm : Room) (fr lo n : Nat) {own : String} (hy : plainName y.cls = true) (hw : ws = Cond.code y cc maxL (some .long) :: ws') (how : y.cls = own) (hdd : y.cls ≠ "java/lang/invoke/MethodHandle" ∧ y.cls ≠ "java/lang/invoke/VarHandle" ∧ (parseMethodDescriptor y.desc).map (fun d => d.parameters.length) = some n) (hR : rm.frames + 1 ≤ fr ∧ 8 + (maxL + 11) + rm.locals ≤ lo) (hnn : (lg_sl av).length ≤ maxL) 
    (body : ∀ (p : Program) (e : Env) (s : State) (m : MethodId) (below : List Frame) (meth : Method) (c : Code) (A : Nat → Prop) (Q : State → Prop), Fx l p s m av.toArray meth c cc maxL own ws A D g z → (∀ (r : Int64) (u : S) (k n : Nat) (lv : List (Nat × Value)) (pc : Nat), decode cc pc = .ok (.lreturn, 1) → k ≤ rm.cells → n ≤ rm.slots → post r u → J p l e rm s m av.toArray below meth c A D maxL Q k n (w1 u) lv [.long r] pc) → J p l e rm s m av.toArray below meth c A D maxL Q 0 0 wc (lv_args 0 av) [] 0) : CL l y ws fr lo n D g z av wc post w1 rm.cells rm.slots := by
  refine ⟨rm, ⟨rfl, rfl, hR.1, ⟨cc, maxL, _, ws', hw, hR.2, fun h => nomatch h⟩, hdd⟩, fun sz => ?_⟩
  refine Met.ofW (cc := cc) (maxL := maxL) (ret := (some .long)) hy hw ?_
  intro p e s m args below meth c s₁ B hml hv
  have hav := hv.1
  obtain ⟨F, hP, hD, hS⟩ := Fx_start hfl hw how B hml hv
  subst hav
  refine J_start hP hD hS hnn (body p e s m below meth c (va_A wc sz) _ F ?_)
  intro r u k n lv pc d hk hn9 hp H locs ls hP hD hS hl
  refine W.widen hk hn9 ?_
  exact W.lret (v := r) F.x F.b (B.returns) (fun t ht hW => ⟨⟨r, u, rfl, hp, PosB_of ht hP hD⟩, hS.F ht⟩) hS.2.2 d F.lk
theorem CD_of {l : Launch} (hfl : l.flags = flags0) {D : va_G} {g : GT} {z : ZT} {y : MethodName} {ws ws' : List Cond} {cc : ByteArray} {maxL : Nat} {av : List Value} {wc : va_W} {S : Type} {post : UInt64 → S → Prop} {w1 : S → va_W} (rm : Room) (fr lo n : Nat) {own : String} (hy : plainName y.cls = true) (hw : ws = Cond.code y cc maxL (some .double) :: ws') (how : y.cls = own) (hdd : y.cls ≠ "java/lang/invoke/MethodHandle" ∧ y.cls ≠ "java/lang/invoke/VarHandle" ∧ (parseMethodDescriptor y.desc).map (fun d => d.parameters.length) = some n) (hR : rm.frames + 1 ≤ fr ∧ 8 + (maxL + 11) + rm.locals ≤ lo) (hnn : (lg_sl av).length ≤ maxL) 
    (body : ∀ (p : Program) (e : Env) (s : State) (m : MethodId) (below : List Frame) (meth : Method) (c : Code) (A : Nat → Prop) (Q : State → Prop), Fx l p s m av.toArray meth c cc maxL own ws A D g z → (∀ (r : UInt64) (u : S) (k n : Nat) (lv : List (Nat × Value)) (pc : Nat), decode cc pc = .ok (.dreturn, 1) → k ≤ rm.cells → n ≤ rm.slots → post r u → J p l e rm s m av.toArray below meth c A D maxL Q k n (w1 u) lv [.double r] pc) → J p l e rm s m av.toArray below meth c A D maxL Q 0 0 wc (lv_args 0 av) [] 0) : CD l y ws fr lo n D g z av wc post w1 rm.cells rm.slots := by
  refine ⟨rm, ⟨rfl, rfl, hR.1, ⟨cc, maxL, _, ws', hw, hR.2, fun h => nomatch h⟩, hdd⟩, fun sz => ?_⟩
  refine Met.ofW (cc := cc) (maxL := maxL) (ret := (some .double)) hy hw ?_
  intro p e s m args below meth c s₁ B hml hv
  have hav := hv.1
  obtain ⟨F, hP, hD, hS⟩ := Fx_start hfl hw how B hml hv
  subst hav
  refine J_start hP hD hS hnn (body p e s m below meth c (va_A wc sz) _ F ?_)
  intro r u k n lv pc d hk hn9 hp H locs ls hP hD hS hl
  refine W.widen hk hn9 ?_
  exact W.dret (v := r) F.x F.b (B.returns) (fun t ht hW => ⟨⟨r, u, rfl, hp, PosB_of ht hP hD⟩, hS.F ht⟩) hS.2.2 d F.lk
theorem CV_of {l : Launch} (hfl : l.flags = flags0) {D : va_G} {g : GT} {z : ZT} {y : MethodName} {ws ws' : List Cond} {cc : ByteArray} {maxL : Nat} {av : List Value} {wc : va_W} {S : Type} {post : S → Prop} {w1 : S → va_W} (rm : Room) (fr lo n : Nat) {own : String} (hy : plainName y.cls = true) (hw : ws = Cond.code y cc maxL none :: ws') (how : y.cls = own) (hdd : y.cls ≠ "java/lang/invoke/MethodHandle" ∧ y.cls ≠ "java/lang/invoke/VarHandle" ∧ (parseMethodDescriptor y.desc).map (fun d => d.parameters.length) = some n) (hR : rm.frames + 1 ≤ fr ∧ 8 + (maxL + 11) + rm.locals ≤ lo) (hnn : (lg_sl av).length ≤ maxL)
    (body : ∀ (p : Program) (e : Env) (s : State) (m : MethodId) (below : List Frame) (meth : Method) (c : Code) (A : Nat → Prop) (Q : State → Prop), Fx l p s m av.toArray meth c cc maxL own ws A D g z → meth.name = y.name → (∀ (u : S) (k n : Nat) (lv : List (Nat × Value)) (pc : Nat), decode cc pc = .ok (.return_, 1) → k ≤ rm.cells → n ≤ rm.slots → post u → J p l e rm s m av.toArray below meth c A D maxL Q k n (w1 u) lv [] pc) → J p l e rm s m av.toArray below meth c A D maxL Q 0 0 wc (lv_args 0 av) [] 0) : CV l y ws fr lo n D g z av wc post w1 rm.cells rm.slots := by
  refine ⟨rm, ⟨rfl, rfl, hR.1, ⟨cc, maxL, _, ws', hw, hR.2, fun _ => rfl⟩, hdd⟩, fun sz => ?_⟩
  refine Met.ofW (cc := cc) (maxL := maxL) (ret := none) hy hw ?_
  intro p e s m args below meth c s₁ B hml hv
  have hav := hv.1
  have hmn : meth.name = y.name := (name_of_methodNamed B.named B.method).1
  obtain ⟨F, hP, hD, hS⟩ := Fx_start hfl hw how B hml hv
  subst hav
  refine J_start hP hD hS hnn (body p e s m below meth c (va_A wc sz) _ F hmn ?_)
  intro u k n lv pc d hk hn9 hp H locs ls hP hD hS hl
  refine W.widen hk hn9 ?_
  exact W.vret F.x F.b B.returns (fun t ht hW => ⟨⟨u, rfl, hp, PosB_of ht hP hD⟩, hS.F ht⟩) hS.2.2 d F.lk
theorem CR_of {l : Launch} (hfl : l.flags = flags0) {D : va_G} {g : GT} {z : ZT} {y : MethodName} {ws ws' : List Cond} {cc : ByteArray} {maxL : Nat} {oc : String} {av : List Value} {wc : va_W} {S : Type} {post : S → Prop} {ra : S → Nat} {w1 : S → va_W} (rm : Room) (fr lo n : Nat) {own : String} (hy : plainName y.cls = true) (hw : ws = Cond.code y cc maxL (some (.object oc)) :: ws') (how : y.cls = own) (hdd : y.cls ≠ "java/lang/invoke/MethodHandle" ∧ y.cls ≠ "java/lang/invoke/VarHandle" ∧ (parseMethodDescriptor y.desc).map (fun d => d.parameters.length) = some n) (hR : rm.frames + 1 ≤ fr ∧ 8 + (maxL + 11) + rm.locals ≤ lo) (hnn : (lg_sl av).length ≤ maxL)
    (body : ∀ (p : Program) (e : Env) (s : State) (m : MethodId) (below : List Frame) (meth : Method) (c : Code) (A : Nat → Prop) (Q : State → Prop), Fx l p s m av.toArray meth c cc maxL own ws A D g z → (∀ (u : S) (k n : Nat) (lv : List (Nat × Value)) (pc : Nat), decode cc pc = .ok (.areturn, 1) → k ≤ rm.cells → n ≤ rm.slots → post u → J p l e rm s m av.toArray below meth c A D maxL Q k n (w1 u) lv [.ref (ra u)] pc) → J p l e rm s m av.toArray below meth c A D maxL Q 0 0 wc (lv_args 0 av) [] 0) : CR l y ws fr lo n D g z av wc post ra w1 rm.cells rm.slots := by
  refine ⟨rm, ⟨rfl, rfl, hR.1, ⟨cc, maxL, _, ws', hw, hR.2, fun h => nomatch h⟩, hdd⟩, fun sz => ?_⟩
  refine Met.ofW (cc := cc) (maxL := maxL) (ret := some (.object oc)) hy hw ?_
  intro p e s m args below meth c s₁ B hml hv
  have hav := hv.1
  obtain ⟨F, hP, hD, hS⟩ := Fx_start hfl hw how B hml hv
  subst hav
  refine J_start hP hD hS hnn (body p e s m below meth c (va_A wc sz) _ F ?_)
  intro u k n lv pc d hk hn9 hp H locs ls hP hD hS hl
  refine W.widen hk hn9 ?_
  exact W.aret F.x F.b B.returns (Or.inl ⟨_, rfl⟩) (Or.inr ⟨_, rfl⟩) (fun t ht hW => ⟨⟨u, ra u, rfl, hp, rfl, PosB_of ht hP hD⟩, hS.F ht⟩) hS.2.2 d F.lk

section CALLS
variable {l : Launch} {p : Program} {e : Env} {R : Room} {s : State} {m : MethodId} {args : Array Value} {below : List Frame} {meth : Method} {c : Code} {cc : ByteArray} {nL : Nat} {own : String} {Ts : List Cond} {A : Nat → Prop} {D : va_G} {g : GT} {z : ZT} {Q : State → Prop} {cells slots : Nat} {ws : va_W} {lv : List (Nat × Value)} {st : List Value} {pc : Nat}
variable {y : MethodName} {wsy : List Cond} {fr lo n mc ms : Nat} {wc wr : va_W} {S : Type}
theorem Fx.fix (F : Fx l p s m args meth c cc nL own Ts A D g z) : CallFix p m c cc nL s args Ts own := ⟨F.x, F.b, F.ml, F.ow, F.ts⟩
theorem pre_call (F : Fx l p s m args meth c cc nL own Ts A D g z) {H : Heap} {locs : List Loc} (hP : va_P D vwCl ws H) (hD : va_D A ws) (hS : va_S A s.heap H locs) (isC : List Nat) (hC : isC.map (fun i => ws[i]?) = wc.map some) (hnc : va_nd isC = true) (av : List Value) : (∀ q, va_A wc H.size q → A q) ∧ ∀ U : State, U.heap = H → s.WarmedH U.vm → va_Pc av (PreB D g z wc H.size) av.toArray U := by
  have hF := va_free (wc := wc) hD hS F.al isC hC
  refine ⟨hF, fun U hU hW => ⟨rfl, by rw [hU], ?_, va_K.moved hW.alike F.K, ?_, ?_⟩⟩
  · rw [hU]
    intro k q hk
    have h1 : (isC.map (fun i => ws[i]?))[k]? = some (some q) := by rw [hC, List.getElem?_map, hk]; rfl
    rw [List.getElem?_map] at h1
    cases hi : isC[k]? with
    | none => rw [hi] at h1; cases h1
    | some i => rw [hi] at h1; exact hP i q (Option.some.inj h1)
  · exact (hD.sub isC hnc hC).weaken (fun _ _ _ _ => trivial)
  · rw [hU]
    exact F.S.to hS hF hW
theorem sub_P {H : Heap} (hP : va_P D vwCl ws H) (isC : List Nat) (hC : isC.map (fun i => ws[i]?) = wc.map some) : va_P D vwCl wc H := by
  intro k q hk
  have h1 : (isC.map (fun i => ws[i]?))[k]? = some (some q) := by rw [hC, List.getElem?_map, hk]; rfl
  rw [List.getElem?_map] at h1
  cases hi : isC[k]? with
  | none => rw [hi] at h1; cases h1
  | some i => rw [hi] at h1; exact hP i q (Option.some.inj h1)
theorem pos_call {H H1 : Heap} {t : State} {w1 : va_W} (hP : va_P D vwCl ws H) (hD : va_D A ws) (isC isR : List Nat) (hC : isC.map (fun i => ws[i]?) = wc.map some) (hR : isR.map (fun i => ws[i]?) = wr.map some) (hn : va_nd isR = true) (hdis : ∀ i ∈ isR, i ∉ isC) (ht : t.heap = H1) (hk1 : ∀ q : Nat, q < H.size → ¬ va_A wc H.size q → H1[q]? = H[q]?) (hF : ∀ q, va_A wc H.size q → A q) (h : PosB D w1 (va_A wc H.size) t) : va_P D vwCl (wr ++ w1) H1 ∧ va_D A (wr ++ w1) := by
  obtain ⟨h1, h2⟩ := h
  rw [ht] at h1
  exact va_join hP hD isC isR hC hR hn hdis hk1 hF h1 h2
theorem j_callV_I (F : Fx l p s m args meth c cc nL own Ts A D g z) {b : Nat} {As : List Value} {post : Int32 → S → Prop} {w1 : S → va_W} (hM : CI l y wsy fr lo n D g z (.ref b :: As) wc post w1 mc ms) {idx : Nat} {C : String} (hG : GoodIn Ts (wsV own idx C y wsy)) (hyC : y.cls = C) (hn : As.length = n) (isC isR : List Nat) (hC : isC.map (fun i => ws[i]?) = wc.map some) (hRr : isR.map (fun i => ws[i]?) = wr.map some) (hnc : va_nd isC = true) (hnr : va_nd isR = true) (hdis : ∀ i ∈ isR, i ∉ isC) {ci q0 N : Nat} {T9 : u_T} {fs : List Value} (hrv : wc[q0]? = some (b, .inr (ci, fs))) (hcl : vwCl[ci]? = some (C, T9, N)) (hlo : lo ≤ R.locals) (hfr : fr ≤ R.frames) (hst : (st.map fun v => v.category).sum ≤ 8) (hf : cells + mc ≤ R.cells ∧ slots + ms ≤ R.slots) (d : decode cc pc = .ok (.invokevirtual idx, 3)) (kk : ∀ (r : Int32) (u : S), post r u → J p l e R s m args below meth c A D nL Q (cells + mc) (slots + ms) (wr ++ w1 u) lv (.int r :: st) (pc + 3)) : J p l e R s m args below meth c A D nL Q cells slots ws lv (As.reverse ++ .ref b :: st) pc := by
  obtain ⟨rm, ⟨hrc, hrs, hfr0, ⟨bytes, maxL, ret, ws9, hw, hlo0, hvoid⟩, hy1, hy2, hy3⟩, hM⟩ := hM
  intro H locs ls hP hD hS hl
  obtain ⟨hF, hpre⟩ := pre_call F hP hD hS isC hC hnc (.ref b :: As)
  have hPc := sub_P hP isC hC
  refine va_calli (va_runV (As := As) (rest := st) F.fix (hM H.size) (cwV n F.ts hG hw hrc hrs ⟨hyC, hy1, hy2, hy3⟩ ⟨Nat.le_trans hfr0 hfr, Nat.le_trans hlo0 hlo⟩) ⟨PreB_blind, va_recv (q0 := q0) F.K hPc hcl hrv, hpre⟩ rfl hn hl.1 rfl (lv_room hst) d hf) hS (fun q _ h => hF q h) hF (fun r u t H1 locs1 ht hvm hp hB hz1 hk1 hS1 => ?_)
  obtain ⟨hP1, hD1⟩ := pos_call hP hD isC isR hC hRr hnr hdis ht hk1 hF hB
  exact kk r u hp H1 locs1 ls hP1 hD1 hS1 hl
theorem j_callV_L (F : Fx l p s m args meth c cc nL own Ts A D g z) {b : Nat} {As : List Value} {post : Int64 → S → Prop} {w1 : S → va_W} (hM : CL l y wsy fr lo n D g z (.ref b :: As) wc post w1 mc ms) {idx : Nat} {C : String} (hG : GoodIn Ts (wsV own idx C y wsy)) (hyC : y.cls = C) (hn : As.length = n) (isC isR : List Nat) (hC : isC.map (fun i => ws[i]?) = wc.map some) (hRr : isR.map (fun i => ws[i]?) = wr.map some) (hnc : va_nd isC = true) (hnr : va_nd isR = true) (hdis : ∀ i ∈ isR, i ∉ isC) {ci q0 N : Nat} {T9 : u_T} {fs : List Value} (hrv : wc[q0]? = some (b, .inr (ci, fs))) (hcl : vwCl[ci]? = some (C, T9, N)) (hlo : lo ≤ R.locals) (hfr : fr ≤ R.frames) (hst : (st.map fun v => v.category).sum ≤ 8) (hf : cells + mc ≤ R.cells ∧ slots + ms ≤ R.slots) (d : decode cc pc = .ok (.invokevirtual idx, 3)) (kk : ∀ (r : Int64) (u : S), post r u → J p l e R s m args below meth c A D nL Q (cells + mc) (slots + ms) (wr ++ w1 u) lv (.long r :: st) (pc + 3)) : J p l e R s m args below meth c A D nL Q cells slots ws lv (As.reverse ++ .ref b :: st) pc := by
  obtain ⟨rm, ⟨hrc, hrs, hfr0, ⟨bytes, maxL, ret, ws9, hw, hlo0, hvoid⟩, hy1, hy2, hy3⟩, hM⟩ := hM
  intro H locs ls hP hD hS hl
  obtain ⟨hF, hpre⟩ := pre_call F hP hD hS isC hC hnc (.ref b :: As)
  have hPc := sub_P hP isC hC
  refine va_calll (va_runV (As := As) (rest := st) F.fix (hM H.size) (cwV n F.ts hG hw hrc hrs ⟨hyC, hy1, hy2, hy3⟩ ⟨Nat.le_trans hfr0 hfr, Nat.le_trans hlo0 hlo⟩) ⟨PreB_blind, va_recv (q0 := q0) F.K hPc hcl hrv, hpre⟩ rfl hn hl.1 rfl (lv_room hst) d hf) hS (fun q _ h => hF q h) hF (fun r u t H1 locs1 ht hvm hp hB hz1 hk1 hS1 => ?_)
  obtain ⟨hP1, hD1⟩ := pos_call hP hD isC isR hC hRr hnr hdis ht hk1 hF hB
  exact kk r u hp H1 locs1 ls hP1 hD1 hS1 hl
theorem j_callV_D (F : Fx l p s m args meth c cc nL own Ts A D g z) {b : Nat} {As : List Value} {post : UInt64 → S → Prop} {w1 : S → va_W} (hM : CD l y wsy fr lo n D g z (.ref b :: As) wc post w1 mc ms) {idx : Nat} {C : String} (hG : GoodIn Ts (wsV own idx C y wsy)) (hyC : y.cls = C) (hn : As.length = n) (isC isR : List Nat) (hC : isC.map (fun i => ws[i]?) = wc.map some) (hRr : isR.map (fun i => ws[i]?) = wr.map some) (hnc : va_nd isC = true) (hnr : va_nd isR = true) (hdis : ∀ i ∈ isR, i ∉ isC) {ci q0 N : Nat} {T9 : u_T} {fs : List Value} (hrv : wc[q0]? = some (b, .inr (ci, fs))) (hcl : vwCl[ci]? = some (C, T9, N)) (hlo : lo ≤ R.locals) (hfr : fr ≤ R.frames) (hst : (st.map fun v => v.category).sum ≤ 8) (hf : cells + mc ≤ R.cells ∧ slots + ms ≤ R.slots) (d : decode cc pc = .ok (.invokevirtual idx, 3)) (kk : ∀ (r : UInt64) (u : S), post r u → J p l e R s m args below meth c A D nL Q (cells + mc) (slots + ms) (wr ++ w1 u) lv (.double r :: st) (pc + 3)) : J p l e R s m args below meth c A D nL Q cells slots ws lv (As.reverse ++ .ref b :: st) pc := by
  obtain ⟨rm, ⟨hrc, hrs, hfr0, ⟨bytes, maxL, ret, ws9, hw, hlo0, hvoid⟩, hy1, hy2, hy3⟩, hM⟩ := hM
  intro H locs ls hP hD hS hl
  obtain ⟨hF, hpre⟩ := pre_call F hP hD hS isC hC hnc (.ref b :: As)
  have hPc := sub_P hP isC hC
  refine va_calld (va_runV (As := As) (rest := st) F.fix (hM H.size) (cwV n F.ts hG hw hrc hrs ⟨hyC, hy1, hy2, hy3⟩ ⟨Nat.le_trans hfr0 hfr, Nat.le_trans hlo0 hlo⟩) ⟨PreB_blind, va_recv (q0 := q0) F.K hPc hcl hrv, hpre⟩ rfl hn hl.1 rfl (lv_room hst) d hf) hS (fun q _ h => hF q h) hF (fun r u t H1 locs1 ht hvm hp hB hz1 hk1 hS1 => ?_)
  obtain ⟨hP1, hD1⟩ := pos_call hP hD isC isR hC hRr hnr hdis ht hk1 hF hB
  exact kk r u hp H1 locs1 ls hP1 hD1 hS1 hl
theorem j_callV_V (F : Fx l p s m args meth c cc nL own Ts A D g z) {b : Nat} {As : List Value} {post : S → Prop} {w1 : S → va_W} (hM : CV l y wsy fr lo n D g z (.ref b :: As) wc post w1 mc ms) {idx : Nat} {C : String} (hG : GoodIn Ts (wsV own idx C y wsy)) (hyC : y.cls = C) (hn : As.length = n) (isC isR : List Nat) (hC : isC.map (fun i => ws[i]?) = wc.map some) (hRr : isR.map (fun i => ws[i]?) = wr.map some) (hnc : va_nd isC = true) (hnr : va_nd isR = true) (hdis : ∀ i ∈ isR, i ∉ isC) {ci q0 N : Nat} {T9 : u_T} {fs : List Value} (hrv : wc[q0]? = some (b, .inr (ci, fs))) (hcl : vwCl[ci]? = some (C, T9, N)) (hlo : lo ≤ R.locals) (hfr : fr ≤ R.frames) (hst : (st.map fun v => v.category).sum ≤ 8) (hf : cells + mc ≤ R.cells ∧ slots + ms ≤ R.slots) (d : decode cc pc = .ok (.invokevirtual idx, 3)) (kk : ∀ (u : S), post u → J p l e R s m args below meth c A D nL Q (cells + mc) (slots + ms) (wr ++ w1 u) lv st (pc + 3)) : J p l e R s m args below meth c A D nL Q cells slots ws lv (As.reverse ++ .ref b :: st) pc := by
  obtain ⟨rm, ⟨hrc, hrs, hfr0, ⟨bytes, maxL, ret, ws9, hw, hlo0, hvoid⟩, hy1, hy2, hy3⟩, hM⟩ := hM
  intro H locs ls hP hD hS hl
  obtain ⟨hF, hpre⟩ := pre_call F hP hD hS isC hC hnc (.ref b :: As)
  have hPc := sub_P hP isC hC
  refine va_callv (va_runV (As := As) (rest := st) F.fix (hM H.size) (cwV n F.ts hG hw hrc hrs ⟨hyC, hy1, hy2, hy3⟩ ⟨Nat.le_trans hfr0 hfr, Nat.le_trans hlo0 hlo⟩) ⟨PreB_blind, va_recv (q0 := q0) F.K hPc hcl hrv, hpre⟩ rfl hn hl.1 rfl (lv_room hst) d hf) hS (fun q _ h => hF q h) hF (fun u t H1 locs1 ht hvm hp hB hz1 hk1 hS1 => ?_)
  obtain ⟨hP1, hD1⟩ := pos_call hP hD isC isR hC hRr hnr hdis ht hk1 hF hB
  exact kk u hp H1 locs1 ls hP1 hD1 hS1 hl
theorem j_callV_R (F : Fx l p s m args meth c cc nL own Ts A D g z) {b : Nat} {As : List Value} {post : S → Prop} {ra : S → Nat} {w1 : S → va_W} (hM : CR l y wsy fr lo n D g z (.ref b :: As) wc post ra w1 mc ms) {idx : Nat} {C : String} (hG : GoodIn Ts (wsV own idx C y wsy)) (hyC : y.cls = C) (hn : As.length = n) (isC isR : List Nat) (hC : isC.map (fun i => ws[i]?) = wc.map some) (hRr : isR.map (fun i => ws[i]?) = wr.map some) (hnc : va_nd isC = true) (hnr : va_nd isR = true) (hdis : ∀ i ∈ isR, i ∉ isC) {ci q0 N : Nat} {T9 : u_T} {fs : List Value} (hrv : wc[q0]? = some (b, .inr (ci, fs))) (hcl : vwCl[ci]? = some (C, T9, N)) (hlo : lo ≤ R.locals) (hfr : fr ≤ R.frames) (hst : (st.map fun v => v.category).sum ≤ 8) (hf : cells + mc ≤ R.cells ∧ slots + ms ≤ R.slots) (d : decode cc pc = .ok (.invokevirtual idx, 3)) (kk : ∀ (u : S), post u → J p l e R s m args below meth c A D nL Q (cells + mc) (slots + ms) (wr ++ w1 u) lv (.ref (ra u) :: st) (pc + 3)) : J p l e R s m args below meth c A D nL Q cells slots ws lv (As.reverse ++ .ref b :: st) pc := by
  obtain ⟨rm, ⟨hrc, hrs, hfr0, ⟨bytes, maxL, ret, ws9, hw, hlo0, hvoid⟩, hy1, hy2, hy3⟩, hM⟩ := hM
  intro H locs ls hP hD hS hl
  obtain ⟨hF, hpre⟩ := pre_call F hP hD hS isC hC hnc (.ref b :: As)
  have hPc := sub_P hP isC hC
  refine va_callr (va_runV (As := As) (rest := st) F.fix (hM H.size) (cwV n F.ts hG hw hrc hrs ⟨hyC, hy1, hy2, hy3⟩ ⟨Nat.le_trans hfr0 hfr, Nat.le_trans hlo0 hlo⟩) ⟨PreB_blind, va_recv (q0 := q0) F.K hPc hcl hrv, hpre⟩ rfl hn hl.1 rfl (lv_room hst) d hf) hS (fun q _ h => hF q h) hF (fun u ra9 t H1 locs1 ht hvm hp hB hz1 hk1 hS1 => ?_)
  obtain ⟨e9, hB⟩ := hB
  subst e9
  obtain ⟨hP1, hD1⟩ := pos_call hP hD isC isR hC hRr hnr hdis ht hk1 hF hB
  exact kk u hp H1 locs1 ls hP1 hD1 hS1 hl
theorem j_callS_I (F : Fx l p s m args meth c cc nL own Ts A D g z) {As : List Value} {post : Int32 → S → Prop} {w1 : S → va_W} (hM : CI l y wsy fr lo n D g z As wc post w1 mc ms) {idx : Nat} (hG : GoodIn Ts (va_wsS own idx y wsy)) (hn : As.length = n) (isC isR : List Nat) (hC : isC.map (fun i => ws[i]?) = wc.map some) (hRr : isR.map (fun i => ws[i]?) = wr.map some) (hnc : va_nd isC = true) (hnr : va_nd isR = true) (hdis : ∀ i ∈ isR, i ∉ isC)  (hlo : lo ≤ R.locals) (hfr : fr ≤ R.frames) (hst : (st.map fun v => v.category).sum ≤ 8) (hf : cells + mc ≤ R.cells ∧ slots + ms ≤ R.slots) (d : decode cc pc = .ok (.invokestatic idx, 3)) (kk : ∀ (r : Int32) (u : S), post r u → J p l e R s m args below meth c A D nL Q (cells + mc) (slots + ms) (wr ++ w1 u) lv (.int r :: st) (pc + 3)) : J p l e R s m args below meth c A D nL Q cells slots ws lv (As.reverse ++ st) pc := by
  obtain ⟨rm, ⟨hrc, hrs, hfr0, ⟨bytes, maxL, ret, ws9, hw, hlo0, hvoid⟩, hy1, hy2, hy3⟩, hM⟩ := hM
  intro H locs ls hP hD hS hl
  obtain ⟨hF, hpre⟩ := pre_call F hP hD hS isC hC hnc As
  refine va_calli (va_runS (As := As) (rest := st) F.fix (hM H.size) (va_cwS n F.ts hG hw hrc hrs ⟨hy1, hy2, hy3⟩ ⟨Nat.le_trans hfr0 hfr, Nat.le_trans hlo0 hlo⟩) ⟨PreB_blind, hpre⟩ rfl hn hl.1 rfl (lv_room hst) d hf) hS (fun q _ h => hF q h) hF (fun r u t H1 locs1 ht hvm hp hB hz1 hk1 hS1 => ?_)
  obtain ⟨hP1, hD1⟩ := pos_call hP hD isC isR hC hRr hnr hdis ht hk1 hF hB
  exact kk r u hp H1 locs1 ls hP1 hD1 hS1 hl
theorem j_callS_L (F : Fx l p s m args meth c cc nL own Ts A D g z) {As : List Value} {post : Int64 → S → Prop} {w1 : S → va_W} (hM : CL l y wsy fr lo n D g z As wc post w1 mc ms) {idx : Nat} (hG : GoodIn Ts (va_wsS own idx y wsy)) (hn : As.length = n) (isC isR : List Nat) (hC : isC.map (fun i => ws[i]?) = wc.map some) (hRr : isR.map (fun i => ws[i]?) = wr.map some) (hnc : va_nd isC = true) (hnr : va_nd isR = true) (hdis : ∀ i ∈ isR, i ∉ isC)  (hlo : lo ≤ R.locals) (hfr : fr ≤ R.frames) (hst : (st.map fun v => v.category).sum ≤ 8) (hf : cells + mc ≤ R.cells ∧ slots + ms ≤ R.slots) (d : decode cc pc = .ok (.invokestatic idx, 3)) (kk : ∀ (r : Int64) (u : S), post r u → J p l e R s m args below meth c A D nL Q (cells + mc) (slots + ms) (wr ++ w1 u) lv (.long r :: st) (pc + 3)) : J p l e R s m args below meth c A D nL Q cells slots ws lv (As.reverse ++ st) pc := by
  obtain ⟨rm, ⟨hrc, hrs, hfr0, ⟨bytes, maxL, ret, ws9, hw, hlo0, hvoid⟩, hy1, hy2, hy3⟩, hM⟩ := hM
  intro H locs ls hP hD hS hl
  obtain ⟨hF, hpre⟩ := pre_call F hP hD hS isC hC hnc As
  refine va_calll (va_runS (As := As) (rest := st) F.fix (hM H.size) (va_cwS n F.ts hG hw hrc hrs ⟨hy1, hy2, hy3⟩ ⟨Nat.le_trans hfr0 hfr, Nat.le_trans hlo0 hlo⟩) ⟨PreB_blind, hpre⟩ rfl hn hl.1 rfl (lv_room hst) d hf) hS (fun q _ h => hF q h) hF (fun r u t H1 locs1 ht hvm hp hB hz1 hk1 hS1 => ?_)
  obtain ⟨hP1, hD1⟩ := pos_call hP hD isC isR hC hRr hnr hdis ht hk1 hF hB
  exact kk r u hp H1 locs1 ls hP1 hD1 hS1 hl
theorem j_callS_D (F : Fx l p s m args meth c cc nL own Ts A D g z) {As : List Value} {post : UInt64 → S → Prop} {w1 : S → va_W} (hM : CD l y wsy fr lo n D g z As wc post w1 mc ms) {idx : Nat} (hG : GoodIn Ts (va_wsS own idx y wsy)) (hn : As.length = n) (isC isR : List Nat) (hC : isC.map (fun i => ws[i]?) = wc.map some) (hRr : isR.map (fun i => ws[i]?) = wr.map some) (hnc : va_nd isC = true) (hnr : va_nd isR = true) (hdis : ∀ i ∈ isR, i ∉ isC)  (hlo : lo ≤ R.locals) (hfr : fr ≤ R.frames) (hst : (st.map fun v => v.category).sum ≤ 8) (hf : cells + mc ≤ R.cells ∧ slots + ms ≤ R.slots) (d : decode cc pc = .ok (.invokestatic idx, 3)) (kk : ∀ (r : UInt64) (u : S), post r u → J p l e R s m args below meth c A D nL Q (cells + mc) (slots + ms) (wr ++ w1 u) lv (.double r :: st) (pc + 3)) : J p l e R s m args below meth c A D nL Q cells slots ws lv (As.reverse ++ st) pc := by
  obtain ⟨rm, ⟨hrc, hrs, hfr0, ⟨bytes, maxL, ret, ws9, hw, hlo0, hvoid⟩, hy1, hy2, hy3⟩, hM⟩ := hM
  intro H locs ls hP hD hS hl
  obtain ⟨hF, hpre⟩ := pre_call F hP hD hS isC hC hnc As
  refine va_calld (va_runS (As := As) (rest := st) F.fix (hM H.size) (va_cwS n F.ts hG hw hrc hrs ⟨hy1, hy2, hy3⟩ ⟨Nat.le_trans hfr0 hfr, Nat.le_trans hlo0 hlo⟩) ⟨PreB_blind, hpre⟩ rfl hn hl.1 rfl (lv_room hst) d hf) hS (fun q _ h => hF q h) hF (fun r u t H1 locs1 ht hvm hp hB hz1 hk1 hS1 => ?_)
  obtain ⟨hP1, hD1⟩ := pos_call hP hD isC isR hC hRr hnr hdis ht hk1 hF hB
  exact kk r u hp H1 locs1 ls hP1 hD1 hS1 hl
theorem j_callS_V (F : Fx l p s m args meth c cc nL own Ts A D g z) {As : List Value} {post : S → Prop} {w1 : S → va_W} (hM : CV l y wsy fr lo n D g z As wc post w1 mc ms) {idx : Nat} (hG : GoodIn Ts (va_wsS own idx y wsy)) (hn : As.length = n) (isC isR : List Nat) (hC : isC.map (fun i => ws[i]?) = wc.map some) (hRr : isR.map (fun i => ws[i]?) = wr.map some) (hnc : va_nd isC = true) (hnr : va_nd isR = true) (hdis : ∀ i ∈ isR, i ∉ isC)  (hlo : lo ≤ R.locals) (hfr : fr ≤ R.frames) (hst : (st.map fun v => v.category).sum ≤ 8) (hf : cells + mc ≤ R.cells ∧ slots + ms ≤ R.slots) (d : decode cc pc = .ok (.invokestatic idx, 3)) (kk : ∀ (u : S), post u → J p l e R s m args below meth c A D nL Q (cells + mc) (slots + ms) (wr ++ w1 u) lv st (pc + 3)) : J p l e R s m args below meth c A D nL Q cells slots ws lv (As.reverse ++ st) pc := by
  obtain ⟨rm, ⟨hrc, hrs, hfr0, ⟨bytes, maxL, ret, ws9, hw, hlo0, hvoid⟩, hy1, hy2, hy3⟩, hM⟩ := hM
  intro H locs ls hP hD hS hl
  obtain ⟨hF, hpre⟩ := pre_call F hP hD hS isC hC hnc As
  refine va_callv (va_runS (As := As) (rest := st) F.fix (hM H.size) (va_cwS n F.ts hG hw hrc hrs ⟨hy1, hy2, hy3⟩ ⟨Nat.le_trans hfr0 hfr, Nat.le_trans hlo0 hlo⟩) ⟨PreB_blind, hpre⟩ rfl hn hl.1 rfl (lv_room hst) d hf) hS (fun q _ h => hF q h) hF (fun u t H1 locs1 ht hvm hp hB hz1 hk1 hS1 => ?_)
  obtain ⟨hP1, hD1⟩ := pos_call hP hD isC isR hC hRr hnr hdis ht hk1 hF hB
  exact kk u hp H1 locs1 ls hP1 hD1 hS1 hl
theorem j_callSN_I (F : Fx l p s m args meth c cc nL own Ts A D g z) {As : List Value} {post : Int32 → S → Prop} {w1 : S → va_W} (hM : CI l y wsy fr lo n D g z As wc post w1 mc ms) {idx : Nat} {host : String} (hG : GoodIn Ts wsy) (hnest : Cond.methodLinkNest own idx y host ∈ nestWs) (hini : Cond.initialized y.cls ∈ Ts) (hsta : Cond.static y ∈ Ts) (hn : As.length = n) (isC isR : List Nat) (hC : isC.map (fun i => ws[i]?) = wc.map some) (hRr : isR.map (fun i => ws[i]?) = wr.map some) (hnc : va_nd isC = true) (hnr : va_nd isR = true) (hdis : ∀ i ∈ isR, i ∉ isC)  (hlo : lo ≤ R.locals) (hfr : fr ≤ R.frames) (hst : (st.map fun v => v.category).sum ≤ 8) (hf : cells + mc ≤ R.cells ∧ slots + ms ≤ R.slots) (d : decode cc pc = .ok (.invokestatic idx, 3)) (kk : ∀ (r : Int32) (u : S), post r u → J p l e R s m args below meth c A D nL Q (cells + mc) (slots + ms) (wr ++ w1 u) lv (.int r :: st) (pc + 3)) : J p l e R s m args below meth c A D nL Q cells slots ws lv (As.reverse ++ st) pc := by
  obtain ⟨rm, ⟨hrc, hrs, hfr0, ⟨bytes, maxL, ret, ws9, hw, hlo0, hvoid⟩, hy1, hy2, hy3⟩, hM⟩ := hM
  intro H locs ls hP hD hS hl
  obtain ⟨hF, hpre⟩ := pre_call F hP hD hS isC hC hnc As
  refine va_calli (va_runSN (As := As) (rest := st) F.fix (hM H.size) (⟨va_cnB n F.ts hG hw hrc hrs (F.S.2.2.2.2.2.2.2.2.2.1 _ hnest) (F.ts _ hini) ⟨hy1, hy2, hy3⟩ ⟨Nat.le_trans hfr0 hfr, Nat.le_trans hlo0 hlo⟩, F.ts _ hsta, trivial⟩) ⟨PreB_blind, hpre⟩ rfl hn hl.1 rfl (lv_room hst) d hf) hS (fun q _ h => hF q h) hF (fun r u t H1 locs1 ht hvm hp hB hz1 hk1 hS1 => ?_)
  obtain ⟨hP1, hD1⟩ := pos_call hP hD isC isR hC hRr hnr hdis ht hk1 hF hB
  exact kk r u hp H1 locs1 ls hP1 hD1 hS1 hl
theorem j_callI_V (F : Fx l p s m args meth c cc nL own Ts A D g z) {b : Nat} {As : List Value} {post : S → Prop} {w1 : S → va_W} (hM : CV l y wsy fr lo n D g z (.ref b :: As) wc post w1 mc ms) {idx : Nat} (hG : GoodIn Ts wsy) (hini : Cond.initialized y.cls ∈ Ts) (hlk : Cond.methodLink own idx y ∈ Ts) (hins : Cond.instanceMethod y ∈ Ts) (hyn : y.name = "<init>") (hn : As.length = n) (isC isR : List Nat) (hC : isC.map (fun i => ws[i]?) = wc.map some) (hRr : isR.map (fun i => ws[i]?) = wr.map some) (hnc : va_nd isC = true) (hnr : va_nd isR = true) (hdis : ∀ i ∈ isR, i ∉ isC)  (hlo : lo ≤ R.locals) (hfr : fr ≤ R.frames) (hst : (st.map fun v => v.category).sum ≤ 8) (hf : cells + mc ≤ R.cells ∧ slots + ms ≤ R.slots) (d : decode cc pc = .ok (.invokespecial idx, 3)) (kk : ∀ (u : S), post u → J p l e R s m args below meth c A D nL Q (cells + mc) (slots + ms) (wr ++ w1 u) lv st (pc + 3)) : J p l e R s m args below meth c A D nL Q cells slots ws lv (As.reverse ++ .ref b :: st) pc := by
  obtain ⟨rm, ⟨hrc, hrs, hfr0, ⟨bytes, maxL, ret, ws9, hw, hlo0, hvoid⟩, hy1, hy2, hy3⟩, hM⟩ := hM
  intro H locs ls hP hD hS hl
  obtain ⟨hF, hpre⟩ := pre_call F hP hD hS isC hC hnc (.ref b :: As)
  have hvo := hvoid rfl; subst hvo
  refine va_callv (va_runI (As := As) (rest := st) F.fix (hM H.size) (cwI n F.ts hG hw hrc hrs (F.ts _ hini) (F.ts _ hlk) (F.ts _ hins) hyn ⟨hy1, hy2, hy3⟩ ⟨Nat.le_trans hfr0 hfr, Nat.le_trans hlo0 hlo⟩) ⟨PreB_blind, hpre⟩ rfl hn hl.1 rfl (lv_room hst) d hf) hS (fun q _ h => hF q h) hF (fun u t H1 locs1 ht hvm hp hB hz1 hk1 hS1 => ?_)
  obtain ⟨hP1, hD1⟩ := pos_call hP hD isC isR hC hRr hnr hdis ht hk1 hF hB
  exact kk u hp H1 locs1 ls hP1 hD1 hS1 hl
end CALLS
end CON
