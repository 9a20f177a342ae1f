/-! ===== THROWS: contracts of methods that may throw; the judgement JX: E thrown at pc ===== -/
section THROW
theorem noTr {l : Launch} (h : l.flags = flags0) : l.stackTraces = false := by
  unfold Launch.stackTraces
  rw [h]
  decide
def exN : List String := ["java/lang/RuntimeException", "java/lang/Exception"]
def XCq {SX : Type} (D : va_G) (pX : String → SX → Prop) (wX : SX → va_W) (A : Nat → Prop) : String → State → State → Prop := vx_X (fun u : String × SX => pX u.1 u.2) (fun E u t => E = u.1 ∧ PosB D (wX u.2) A t) A
/-- E is thrown at pc, in a heap that holds the world ws -/
def JX (p : Program) (l : Launch) (e : Env) (R : Room) (s : State) (m : MethodId) (args : Array Value) (below : List Frame) (meth : Method) (c : Code) (A : Nat → Prop) (D : va_G) (nL : Nat) (Q : State → Prop) (cells slots : Nat) (ws : va_W) (lv : List (Nat × Value)) (E : String) (pc : Nat) : Prop :=
  ∀ (H : Heap) (locs : List Loc) (ls : Array Slot) (q9 : Addr) (ce : Cell) (rest : List Value), va_P D vwCl ws H → va_D A ws → va_S A s.heap H locs → lv_has ls nL lv → H[q9]? = some ce → ce.vm = .none → s.vm.findClass E = some ce.cls → vx_W p l e R s m args below meth c H locs cells slots Q (F0 m pc ls rest) q9
def XI (l : Launch) (y : MethodName) (ws : List Cond) (fr lo n : Nat) (D : va_G) (g : GT) (z : ZT) (av : List Value) (wc : va_W) {S SX : Type} (post : Int32 → S → Prop) (w1 : S → va_W) (pX : String → SX → Prop) (wX : SX → va_W) (mc ms : Nat) : Prop :=
  ∃ rm : Room, Cal y ws rm false fr lo n mc ms ∧ ∀ sz : Nat, vx_Met l y ws rm (va_Pc av (PreB D g z wc sz)) (va_Qi post (fun u t => PosB D (w1 u) (va_A wc sz) t) (va_A wc sz)) (XCq D pX wX (va_A wc sz)) mc ms (va_A wc sz)
def XV (l : Launch) (y : MethodName) (ws : List Cond) (fr lo n : Nat) (D : va_G) (g : GT) (z : ZT) (av : List Value) (wc : va_W) {S SX : Type} (post : S → Prop) (w1 : S → va_W) (pX : String → SX → Prop) (wX : SX → va_W) (mc ms : Nat) : Prop :=
  ∃ rm : Room, Cal y ws rm true fr lo n mc ms ∧ ∀ sz : Nat, vx_Met l y ws rm (va_Pc av (PreB D g z wc sz)) (va_Qv post (fun u t => PosB D (w1 u) (va_A wc sz) t) (va_A wc sz)) (XCq D pX wX (va_A wc sz)) mc ms (va_A wc sz)
/-- what a 'throw new E(text)' needs of the words -/
def ThrW (ws : List Cond) (own : String) (ik is ic : Nat) (E text : String) : Prop :=
  own = RX6 ∧ Bundle.fit E = true ∧ Cond.classLink own ik E ∈ ws ∧ Cond.initialized E ∈ ws ∧ (is, text) ∈ msgs ∧ (∀ w ∈ (vx_atS own ic E exN).filter goodWord, w ∈ ws) ∧ (∀ w ∈ (vx_atS own ic E exN).filter (fun w => !goodWord w), w ∈ Cond.castable E E :: exWs) ∧ (E, E) ∈ castWs ∧ (∀ w ∈ Cond.classLink own ik E :: Cond.initialized E :: vx_atS own ic E exN, vx_ot w = true)
theorem exN_fit : ∀ n ∈ exN, Bundle.fit n = true := by decide
theorem cast_hat {U : State} {args : Array Value} {E : String} (h : va_Nw (.castable E E) U) (h2 : ∀ w ∈ exWs, va_Nw w U) : ∀ w ∈ Cond.castable E E :: exWs, w.before args U = true := fun w hw => by
  rcases List.mem_cons.mp hw with e | e
  · subst e
    exact h.use rfl
  · have h3 := h2 w e
    simp only [exWs, List.mem_cons, List.not_mem_nil, or_false] at e
    rcases e with rfl | rfl | rfl | rfl <;> exact h3.use rfl
theorem XI_of {l : Launch} (hfl : l.flags = flags0) {D : va_G} {g : GT} {z : ZT} {y : MethodName} {ws ws' : List Cond} {cc : ByteArray} {maxL : Nat} {ty : FieldType} {av : List Value} {wc : va_W} {S SX : Type} {post : Int32 → S → Prop} {w1 : S → va_W} {pX : String → SX → Prop} {wX : SX → va_W} (rm : Room) (fr lo n : Nat) {own : String} (hy : plainName y.cls = true) (hw : ws = Cond.code y cc maxL (some ty) :: ws') (how : y.cls = own) (hdd : y.cls ≠ "java/lang/invoke/MethodHandle" ∧ y.cls ≠ "java/lang/invoke/VarHandle" ∧ (parseMethodDescriptor y.desc).map (fun d => d.parameters.length) = some n) (hR : rm.frames + 1 ≤ fr ∧ 8 + (maxL + 11) + rm.locals ≤ lo) (hnn : (lg_sl av).length ≤ maxL) (hnar : ∀ (r : Int32) (u : S), post r u → narrow ty (.int r) = .int r)
    (body : ∀ (p : Program) (e : Env) (s : State) (m : MethodId) (below : List Frame) (meth : Method) (c : Code) (A : Nat → Prop) (Q : State → Prop), Fx l p s m av.toArray meth c cc maxL own ws A D g z → (∀ (r : Int32) (u : S) (k n : Nat) (lv : List (Nat × Value)) (pc : Nat), decode cc pc = .ok (.ireturn, 1) → k ≤ rm.cells → n ≤ rm.slots → post r u → J p l e rm s m av.toArray below meth c A D maxL Q k n (w1 u) lv [.int r] pc) →
      (∀ (E : String) (u : SX) (k n : Nat) (lv : List (Nat × Value)) (pc : Nat), k ≤ rm.cells → n ≤ rm.slots → pX E u → JX p l e rm s m av.toArray below meth c A D maxL Q k n (wX u) lv E pc) →
      (∀ (E text : String) (u : SX) (ik is ic k n : Nat) (lv : List (Nat × Value)) (pc : Nat), ThrW ws own ik is ic E text → decode cc pc = .ok (.new ik, 3) → decode cc (pc + 3) = .ok (.dup, 1) → ((decode cc (pc + 4) = .ok (.ldc is, 2) ∧ decode cc (pc + 6) = .ok (.invokespecial ic, 3) ∧ decode cc (pc + 9) = .ok (.athrow, 1)) ∨ (decode cc (pc + 4) = .ok (.ldc_w is, 3) ∧ decode cc (pc + 7) = .ok (.invokespecial ic, 3) ∧ decode cc (pc + 10) = .ok (.athrow, 1))) → k + 1 ≤ rm.cells → n + 6 ≤ rm.slots → 5 < rm.frames → 82 ≤ rm.locals → pX E u → J p l e rm s m av.toArray below meth c A D maxL Q k n (wX u) lv [] pc) →
      J p l e rm s m av.toArray below meth c A D maxL Q 0 0 wc (lv_args 0 av) [] 0) : XI l y ws fr lo n D g z av wc post w1 pX wX rm.cells rm.slots := by
  refine ⟨rm, ⟨rfl, rfl, hR.1, ⟨cc, maxL, _, ws', hw, hR.2, fun h => nomatch h⟩, hdd⟩, fun sz => ?_⟩
  refine vx_ofW (cc := cc) (maxL := maxL) (ret := (some ty)) hy hw ?_
  intro p e s m args below meth c s₁ B hml hE hv
  have hav := hv.1
  obtain ⟨F, hP, hD, hS⟩ := Fx_start hfl hw how B hml hv
  subst hav
  refine J_start hP hD hS hnn (body p e s m below meth c (va_A wc sz) _ F ?_ ?_ ?_)
  · intro r u k n lv pc d hk hn9 hp H locs ls hP hD hS hl
    refine W.widen hk hn9 ?_
    exact vx_ret (W.zret (v := r) F.x F.b (B.returns) (hnar r u hp) (fun t ht hW => ⟨⟨r, u, rfl, hp, PosB_of ht hP hD⟩, hS.F ht⟩) hS.2.2 d F.lk)
  · intro E u k n lv pc hk hn9 hp H locs ls q9 ce rest hP hD hS hl hc9 hv9 hcl9
    exact vx_out (E := E) (fun x hx => (hE x hx).elim) F.lk hc9 hv9 hcl9 (fun t ht hal => ⟨(E, u), hp, ⟨rfl, PosB_of ht hP hD⟩, hS.F ht⟩) hS.2.2 hk hn9
  · intro E text u ik is ic k n lv pc hT d0 d3 d4 hk hn9 hfr9 hlo9 hp H locs ls hP hD hS hl
    obtain ⟨t1, t2, t3, t4, t5, t6, t7, t8, t9⟩ := hT
    subst t1
    obtain ⟨sa, hsa⟩ := F.S.2.2.2.2.2.2.1 _ t5
    have hx : ∀ t : State, s.vm.Alike t.vm → H.size ≤ t.heap.size → (∀ q : Nat, q < H.size → t.heap[q]? = H[q]?) → XCq D pX wX (va_A wc sz) E s t := fun t hal hsz hkeep => ⟨(E, u), hp, ⟨rfl, hP.kept (fun kk q hq => hkeep q.1 (hP kk q hq).lt), hD⟩, Nat.le_trans hS.1 hsz, fun q h1 h2 => (hkeep q (Nat.lt_of_lt_of_le h1 hS.1)).trans (hS.2.1 q h1 h2)⟩
    have hcw := F.S.2.2.2.2.2.2.2.2.2.2.1 _ t8
    rcases d4 with ⟨d4, d6, d9⟩ | ⟨d4, d6, d9⟩
    · exact vx_throwS (cls := E) (text := text) (names := exN) F.x F.b (noTr hfl) F.ow t2 exN_fit (F.ts _ t3) (F.ts _ t4) hsa (vx_hat (fun w hw => F.ts w (t6 w hw)) t7 (cast_hat hcw F.S.2.2.2.2.2.2.2.2.2.2.2.2.2.2)) t9 F.S.2.2.2.2.2.2.2.1 F.S.2.2.2.2.2.2.2.2.1 hS (hl.1.trans F.ml.symm) d0 d3 d4 d6 d9 (fun x hx => (hE x hx).elim) hfr9 (show 0 + (13 * (2 + 1) + 43) ≤ rm.locals by omega) hk hn9 F.lk hx hS.2.2 hk hn9
    · exact vx_throwSW (cls := E) (text := text) (names := exN) F.x F.b (noTr hfl) F.ow t2 exN_fit (F.ts _ t3) (F.ts _ t4) hsa (vx_hat (fun w hw => F.ts w (t6 w hw)) t7 (cast_hat hcw F.S.2.2.2.2.2.2.2.2.2.2.2.2.2.2)) t9 F.S.2.2.2.2.2.2.2.1 F.S.2.2.2.2.2.2.2.2.1 hS (hl.1.trans F.ml.symm) d0 d3 d4 d6 d9 (fun x hx => (hE x hx).elim) hfr9 (show 0 + (13 * (2 + 1) + 43) ≤ rm.locals by omega) hk hn9 F.lk hx hS.2.2 hk hn9
theorem XV_of {l : Launch} (hfl : l.flags = flags0) {D : va_G} {g : GT} {z : ZT} {y : MethodName} {ws ws' : List Cond} {cc : ByteArray} {maxL : Nat} {av : List Value} {wc : va_W} {S SX : Type} {post : S → Prop} {w1 : S → va_W} {pX : String → SX → Prop} {wX : SX → va_W} (rm : Room) (fr lo n : Nat) {own : String} (hy : plainName y.cls = true) (hw : ws = Cond.code y cc maxL none :: ws') (how : y.cls = own) (hdd : y.cls ≠ "java/lang/invoke/MethodHandle" ∧ y.cls ≠ "java/lang/invoke/VarHandle" ∧ (parseMethodDescriptor y.desc).map (fun d => d.parameters.length) = some n) (hR : rm.frames + 1 ≤ fr ∧ 8 + (maxL + 11) + rm.locals ≤ lo) (hnn : (lg_sl av).length ≤ maxL)
    (body : ∀ (p : Program) (e : Env) (s : State) (m : MethodId) (below : List Frame) (meth : Method) (c : Code) (A : Nat → Prop) (Q : State → Prop), Fx l p s m av.toArray meth c cc maxL own ws A D g z → (∀ (u : S) (k n : Nat) (lv : List (Nat × Value)) (pc : Nat), decode cc pc = .ok (.return_, 1) → k ≤ rm.cells → n ≤ rm.slots → post u → J p l e rm s m av.toArray below meth c A D maxL Q k n (w1 u) lv [] pc) →
      (∀ (E : String) (u : SX) (k n : Nat) (lv : List (Nat × Value)) (pc : Nat), k ≤ rm.cells → n ≤ rm.slots → pX E u → JX p l e rm s m av.toArray below meth c A D maxL Q k n (wX u) lv E pc) →
      (∀ (E text : String) (u : SX) (ik is ic k n : Nat) (lv : List (Nat × Value)) (pc : Nat), ThrW ws own ik is ic E text → decode cc pc = .ok (.new ik, 3) → decode cc (pc + 3) = .ok (.dup, 1) → ((decode cc (pc + 4) = .ok (.ldc is, 2) ∧ decode cc (pc + 6) = .ok (.invokespecial ic, 3) ∧ decode cc (pc + 9) = .ok (.athrow, 1)) ∨ (decode cc (pc + 4) = .ok (.ldc_w is, 3) ∧ decode cc (pc + 7) = .ok (.invokespecial ic, 3) ∧ decode cc (pc + 10) = .ok (.athrow, 1))) → k + 1 ≤ rm.cells → n + 6 ≤ rm.slots → 5 < rm.frames → 82 ≤ rm.locals → pX E u → J p l e rm s m av.toArray below meth c A D maxL Q k n (wX u) lv [] pc) →
      J p l e rm s m av.toArray below meth c A D maxL Q 0 0 wc (lv_args 0 av) [] 0) : XV l y ws fr lo n D g z av wc post w1 pX wX rm.cells rm.slots := by
  refine ⟨rm, ⟨rfl, rfl, hR.1, ⟨cc, maxL, _, ws', hw, hR.2, fun h => rfl⟩, hdd⟩, fun sz => ?_⟩
  refine vx_ofW (cc := cc) (maxL := maxL) (ret := none) hy hw ?_
  intro p e s m args below meth c s₁ B hml hE hv
  have hav := hv.1
  obtain ⟨F, hP, hD, hS⟩ := Fx_start hfl hw how B hml hv
  subst hav
  refine J_start hP hD hS hnn (body p e s m below meth c (va_A wc sz) _ F ?_ ?_ ?_)
  · intro u k n lv pc d hk hn9 hp H locs ls hP hD hS hl
    refine W.widen hk hn9 ?_
    exact vx_ret (W.vret F.x F.b (B.returns) (fun t ht hW => ⟨⟨u, rfl, hp, PosB_of ht hP hD⟩, hS.F ht⟩) hS.2.2 d F.lk)
  · intro E u k n lv pc hk hn9 hp H locs ls q9 ce rest hP hD hS hl hc9 hv9 hcl9
    exact vx_out (E := E) (fun x hx => (hE x hx).elim) F.lk hc9 hv9 hcl9 (fun t ht hal => ⟨(E, u), hp, ⟨rfl, PosB_of ht hP hD⟩, hS.F ht⟩) hS.2.2 hk hn9
  · intro E text u ik is ic k n lv pc hT d0 d3 d4 hk hn9 hfr9 hlo9 hp H locs ls hP hD hS hl
    obtain ⟨t1, t2, t3, t4, t5, t6, t7, t8, t9⟩ := hT
    subst t1
    obtain ⟨sa, hsa⟩ := F.S.2.2.2.2.2.2.1 _ t5
    have hx : ∀ t : State, s.vm.Alike t.vm → H.size ≤ t.heap.size → (∀ q : Nat, q < H.size → t.heap[q]? = H[q]?) → XCq D pX wX (va_A wc sz) E s t := fun t hal hsz hkeep => ⟨(E, u), hp, ⟨rfl, hP.kept (fun kk q hq => hkeep q.1 (hP kk q hq).lt), hD⟩, Nat.le_trans hS.1 hsz, fun q h1 h2 => (hkeep q (Nat.lt_of_lt_of_le h1 hS.1)).trans (hS.2.1 q h1 h2)⟩
    have hcw := F.S.2.2.2.2.2.2.2.2.2.2.1 _ t8
    rcases d4 with ⟨d4, d6, d9⟩ | ⟨d4, d6, d9⟩
    · exact vx_throwS (cls := E) (text := text) (names := exN) F.x F.b (noTr hfl) F.ow t2 exN_fit (F.ts _ t3) (F.ts _ t4) hsa (vx_hat (fun w hw => F.ts w (t6 w hw)) t7 (cast_hat hcw F.S.2.2.2.2.2.2.2.2.2.2.2.2.2.2)) t9 F.S.2.2.2.2.2.2.2.1 F.S.2.2.2.2.2.2.2.2.1 hS (hl.1.trans F.ml.symm) d0 d3 d4 d6 d9 (fun x hx => (hE x hx).elim) hfr9 (show 0 + (13 * (2 + 1) + 43) ≤ rm.locals by omega) hk hn9 F.lk hx hS.2.2 hk hn9
    · exact vx_throwSW (cls := E) (text := text) (names := exN) F.x F.b (noTr hfl) F.ow t2 exN_fit (F.ts _ t3) (F.ts _ t4) hsa (vx_hat (fun w hw => F.ts w (t6 w hw)) t7 (cast_hat hcw F.S.2.2.2.2.2.2.2.2.2.2.2.2.2.2)) t9 F.S.2.2.2.2.2.2.2.1 F.S.2.2.2.2.2.2.2.2.1 hS (hl.1.trans F.ml.symm) d0 d3 d4 d6 d9 (fun x hx => (hE x hx).elim) hfr9 (show 0 + (13 * (2 + 1) + 43) ≤ rm.locals by omega) hk hn9 F.lk hx hS.2.2 hk hn9
section CALLT
variable {l : Launch} {p : Program} {e : Env} {R : Room} {s : State} {m : MethodId} {args : Array Value} {below : List Frame} {meth : Method} {c : Code} {cc : ByteArray} {nL : Nat} {own : String} {Ts : List Cond} {A : Nat → Prop} {D : va_G} {g : GT} {z : ZT} {Q : State → Prop} {cells slots : Nat} {ws : va_W} {lv : List (Nat × Value)} {st : List Value} {pc : Nat}
variable {y : MethodName} {wsy : List Cond} {fr lo n mc ms : Nat} {wc wr : va_W} {S SX : Type}
theorem JX.permL {E : String} {ws2 : va_W} (h : ws.Perm ws2) (k : JX p l e R s m args below meth c A D nL Q cells slots ws2 lv E pc) : JX p l e R s m args below meth c A D nL Q cells slots ws lv E pc := fun H locs ls q9 ce rest hP hD hS hl h1 h2 h3 => k H locs ls q9 ce rest (vaP_perm h hP) (vaD_perm h hD) hS hl h1 h2 h3
theorem JX.wsEq {E : String} {ws2 : va_W} (h : ws = ws2) (k : JX p l e R s m args below meth c A D nL Q cells slots ws2 lv E pc) : JX p l e R s m args below meth c A D nL Q cells slots ws lv E pc := by rw [h]; exact k
theorem j_callVt_I (F : Fx l p s m args meth c cc nL own Ts A D g z) {b : Nat} {As : List Value} {post : Int32 → S → Prop} {w1 : S → va_W} {pX : String → SX → Prop} {wX : SX → va_W} (hM : XI l y wsy fr lo n D g z (.ref b :: As) wc post w1 pX wX mc ms) {idx : Nat} {C : String} (hG : GoodIn Ts (wsV own idx C y wsy)) (hyC : y.cls = C) (hn : As.length = n) {ci q0 N : Nat} {T9 : u_T} {fs : List Value} (hrv : wc[q0]? = some (b, .inr (ci, fs))) (hcl : vwCl[ci]? = some (C, T9, N)) (hlo : lo ≤ R.locals) (hfr : fr ≤ R.frames) (hst : (st.map fun v => v.category).sum ≤ 8) (hf : cells + mc ≤ R.cells ∧ slots + ms ≤ R.slots) (d : decode cc pc = .ok (.invokevirtual idx, 3)) (kx : ∀ (E : String) (u : SX), pX E u → JX p l e R s m args below meth c A D nL Q (cells + mc) (slots + ms) (wX u ++ wr) lv E pc) (kk : ∀ (r : Int32) (u : S), post r u → J p l e R s m args below meth c A D nL Q (cells + mc) (slots + ms) (w1 u ++ wr) lv (.int r :: st) (pc + 3)) : J p l e R s m args below meth c A D nL Q cells slots (wc ++ wr) lv (As.reverse ++ .ref b :: st) pc := by
  obtain ⟨rm, ⟨hrc, hrs, hfr0, ⟨bytes, maxL, ret, ws9, hw, hlo0, hvoid⟩, hy1, hy2, hy3⟩, hM⟩ := hM
  intro H locs ls hP hD hS hl
  obtain ⟨hF, hpre⟩ := pre_call F hP hD hS _ (rng_C wc wr) (nd_range _ _) (.ref b :: As)
  have hPc := sub_P hP _ (rng_C wc wr)
  refine vx_calli (vx_runV (As := As) (rest := st) F.fix (hM H.size) (cwV n F.ts hG hw hrc hrs ⟨hyC, hy1, hy2, hy3⟩ ⟨Nat.le_trans hfr0 hfr, Nat.le_trans hlo0 hlo⟩) ⟨PreB_blind, va_recv (q0 := q0) F.K hPc hcl hrv, hpre⟩ rfl hn hl.1 rfl (lv_room hst) d hf) hS (fun q _ h => hF q h) hF (fun q _ h => hF q h) (fun E ce q9 u t H1 locs1 ht hvm hp hB hz1 hk1 hS1 hc1 hc2 hc3 => ?_) (fun r u t H1 locs1 ht hvm hp hB hz1 hk1 hS1 => ?_)
  · obtain ⟨rfl, hB⟩ := hB
    obtain ⟨hP1, hD1⟩ := pos_x hP hD ht hk1 hF hB
    exact kx u.1 u.2 hp H1 locs1 ls q9 ce _ hP1 hD1 hS1 hl hc1 hc2 hc3
  · obtain ⟨hP1, hD1⟩ := pos_x hP hD ht hk1 hF hB
    exact kk r u hp H1 locs1 ls hP1 hD1 hS1 hl
theorem j_callVt_V (F : Fx l p s m args meth c cc nL own Ts A D g z) {b : Nat} {As : List Value} {post : S → Prop} {w1 : S → va_W} {pX : String → SX → Prop} {wX : SX → va_W} (hM : XV l y wsy fr lo n D g z (.ref b :: As) wc post w1 pX wX mc ms) {idx : Nat} {C : String} (hG : GoodIn Ts (wsV own idx C y wsy)) (hyC : y.cls = C) (hn : As.length = n) {ci q0 N : Nat} {T9 : u_T} {fs : List Value} (hrv : wc[q0]? = some (b, .inr (ci, fs))) (hcl : vwCl[ci]? = some (C, T9, N)) (hlo : lo ≤ R.locals) (hfr : fr ≤ R.frames) (hst : (st.map fun v => v.category).sum ≤ 8) (hf : cells + mc ≤ R.cells ∧ slots + ms ≤ R.slots) (d : decode cc pc = .ok (.invokevirtual idx, 3)) (kx : ∀ (E : String) (u : SX), pX E u → JX p l e R s m args below meth c A D nL Q (cells + mc) (slots + ms) (wX u ++ wr) lv E pc) (kk : ∀ (u : S), post u → J p l e R s m args below meth c A D nL Q (cells + mc) (slots + ms) (w1 u ++ wr) lv st (pc + 3)) : J p l e R s m args below meth c A D nL Q cells slots (wc ++ wr) lv (As.reverse ++ .ref b :: st) pc := by
  obtain ⟨rm, ⟨hrc, hrs, hfr0, ⟨bytes, maxL, ret, ws9, hw, hlo0, hvoid⟩, hy1, hy2, hy3⟩, hM⟩ := hM
  intro H locs ls hP hD hS hl
  obtain ⟨hF, hpre⟩ := pre_call F hP hD hS _ (rng_C wc wr) (nd_range _ _) (.ref b :: As)
  have hPc := sub_P hP _ (rng_C wc wr)
  refine vx_callv (vx_runV (As := As) (rest := st) F.fix (hM H.size) (cwV n F.ts hG hw hrc hrs ⟨hyC, hy1, hy2, hy3⟩ ⟨Nat.le_trans hfr0 hfr, Nat.le_trans hlo0 hlo⟩) ⟨PreB_blind, va_recv (q0 := q0) F.K hPc hcl hrv, hpre⟩ rfl hn hl.1 rfl (lv_room hst) d hf) hS (fun q _ h => hF q h) hF (fun q _ h => hF q h) (fun E ce q9 u t H1 locs1 ht hvm hp hB hz1 hk1 hS1 hc1 hc2 hc3 => ?_) (fun u t H1 locs1 ht hvm hp hB hz1 hk1 hS1 => ?_)
  · obtain ⟨rfl, hB⟩ := hB
    obtain ⟨hP1, hD1⟩ := pos_x hP hD ht hk1 hF hB
    exact kx u.1 u.2 hp H1 locs1 ls q9 ce _ hP1 hD1 hS1 hl hc1 hc2 hc3
  · obtain ⟨hP1, hD1⟩ := pos_x hP hD ht hk1 hF hB
    exact kk u hp H1 locs1 ls hP1 hD1 hS1 hl
end CALLT
end THROW
