/-! ===== LAW: rows for its walks ===== -/
section LAWROWS
variable {l : Launch} {p : Program} {e : Env} {R : Room} {s : State} {m : MethodId} {args : Array Value} {below : List Frame} {meth : Method} {c : Code} {cc : ByteArray} {nL : Nat} {own : String} {Ts : List Cond} {A : Nat → Prop} {D : va_G} {g : GT} {z : ZT} {Q : State → Prop} {cells slots : Nat} {ws : va_W} {lv : List (Nat × Value)} {st : List Value} {pc : Nat}
variable {y : MethodName} {wsy : List Cond} {fr lo n mc ms : Nat} {wc wr : va_W} {S SX : Type}
theorem j_astore (F : Fx l p s m args meth c cc nL own Ts A D g z) {i : Nat} {v : Nat} {lv' : List (Nat × Value)} (d : decode cc pc = .ok (.astore i, 2)) (hn : i < nL) (h : (i, Value.ref v) :: lv.filter (fun q => !(q.1 == i) && !(q.1 + 1 == i && q.2.category == 2)) = lv') (kk : J p l e R s m args below meth c A D nL Q cells slots ws lv' st (pc + 2)) : J p l e R s m args below meth c A D nL Q cells slots ws lv (.ref v :: st) pc := fun H locs ls hP hD hS hl => lv_astore F.x F.b d hl hn h (fun ls' hl' => kk H locs ls' hP hD hS hl')
/-- a loop whose room grows -/
theorem J_loopC {σ : Type} (I : σ → Prop) (μ : σ → Nat) (cf sf : σ → Nat) (wl : σ → va_W) (lvf : σ → List (Nat × Value)) (x0 : σ) (h0 : I x0) (step : ∀ x, I x → (∀ y, I y → μ y < μ x → J p l e R s m args below meth c A D nL Q (cf y) (sf y) (wl y) (lvf y) st pc) → J p l e R s m args below meth c A D nL Q (cf x) (sf x) (wl x) (lvf x) st pc) : J p l e R s m args below meth c A D nL Q (cf x0) (sf x0) (wl x0) (lvf x0) st pc := by
  have key : ∀ (n : Nat) (x : σ), μ x < n → I x → J p l e R s m args below meth c A D nL Q (cf x) (sf x) (wl x) (lvf x) st pc := by
    intro n
    induction n with
    | zero => intro x h; exact absurd h (Nat.not_lt_zero _)
    | succ n ih => intro x h hI; exact step x hI (fun y hy hm => ih y (by omega) hy)
  exact key (μ x0 + 1) x0 (Nat.lt_succ_self _) h0
/-- caught here: E by a row that names it; rows before name others -/
theorem JX_catch (F : Fx l p s m args meth c cc nL own Ts A D g z) {E : String} (pre : List ExceptionTableEntry) (x : ExceptionTableEntry) (suf : List ExceptionTableEntry) (hsplit : c.exceptionTable.toList = pre ++ x :: suf) (hpass : ∀ y ∈ pre, y.catchType ≠ 0 ∧ ∃ nm : String, Cond.classLink own y.catchType nm ∈ Ts ∧ (E, nm) ∈ ncWs) (hx : covers x pc = true) (h0 : x.catchType ≠ 0) (hlink : Cond.classLink own x.catchType E ∈ Ts) (hcast : (E, E) ∈ castWs) (kk : ∀ q : Nat, J p l e R s m args below meth c A D nL Q cells slots ws lv [.ref q] x.handlerPc) : JX p l e R s m args below meth c A D nL Q cells slots ws lv E pc :=
  fun H locs ls q9 ce rest hP hD hS hl h1 h2 h3 => vx_catch F.ow pre x suf hsplit (fun y hy => Or.inr ⟨(hpass y hy).1, (hpass y hy).2.elim fun nm h => ⟨nm, F.ts _ h.1, F.S.2.2.2.2.2.2.2.2.2.2.2.2.2.1 _ h.2⟩⟩) hx h0 (F.ts _ hlink) ((F.S.2.2.2.2.2.2.2.2.2.2.1 _ hcast).use rfl) h1 h2 h3 (kk q9 H locs ls hP hD hS hl)
theorem JX_wid {E : String} {k n : Nat} (h1 : cells ≤ k) (h2 : slots ≤ n) (kk : JX p l e R s m args below meth c A D nL Q k n ws lv E pc) : JX p l e R s m args below meth c A D nL Q cells slots ws lv E pc := fun H locs ls q9 ce rest hP hD hS hl a1 a2 a3 => vx_widen h1 h2 (kk H locs ls q9 ce rest hP hD hS hl a1 a2 a3)
/-- what a caller must know of a wrapper, a method with handlers -/
def CalH (y : MethodName) (ws : List Cond) (hh : List (Nat × Nat × Nat × Nat)) (rm : Room) (fr lo n mc ms : Nat) : Prop :=
  rm.cells = mc ∧ rm.slots = ms ∧ rm.frames + 1 ≤ fr ∧ (∃ (bytes : ByteArray) (maxL : Nat) (ret : Option FieldType) (ws' : List Cond), ws = Cond.codeWith y bytes maxL ret hh :: ws' ∧ 8 + (maxL + 11) + rm.locals ≤ lo) ∧ y.cls ≠ "java/lang/invoke/MethodHandle" ∧ y.cls ≠ "java/lang/invoke/VarHandle" ∧ (parseMethodDescriptor y.desc).map (fun d => d.parameters.length) = some n
def HI (l : Launch) (y : MethodName) (ws : List Cond) (hh : List (Nat × Nat × Nat × Nat)) (fr lo n : Nat) (D : va_G) (g : GT) (z : ZT) (av : List Value) (wc : va_W) {S : Type} (post : Int32 → S → Prop) (w1 : S → va_W) (mc ms : Nat) : Prop :=
  ∃ rm : Room, CalH y ws hh rm fr lo n mc ms ∧ ∀ sz : Nat, vx_Met l y ws rm (va_Pc av (PreB D g z wc sz)) (va_Qi post (fun u t => PosB D (w1 u) (va_A wc sz) t) (va_A wc sz)) (XCq (SX := Unit) D (fun _ _ => False) (fun _ => []) (va_A wc sz)) mc ms (va_A wc sz)
theorem HI_of {l : Launch} (hfl : l.flags = flags0) {D : va_G} {g : GT} {z : ZT} {y : MethodName} {ws ws' : List Cond} {cc : ByteArray} {maxL : Nat} {ty : FieldType} {hh : List (Nat × Nat × Nat × Nat)} {av : List Value} {wc : va_W} {S : Type} {post : Int32 → S → Prop} {w1 : S → va_W} (rm : Room) (fr lo n : Nat) {own : String} (hy : plainName y.cls = true) (hw : ws = Cond.codeWith y cc maxL (some ty) hh :: ws') (how : y.cls = own) (hdd : y.cls ≠ "java/lang/invoke/MethodHandle" ∧ y.cls ≠ "java/lang/invoke/VarHandle" ∧ (parseMethodDescriptor y.desc).map (fun d => d.parameters.length) = some n) (hR : rm.frames + 1 ≤ fr ∧ 8 + (maxL + 11) + rm.locals ≤ lo) (hnn : (lg_sl av).length ≤ maxL) (hnar : ∀ (r : Int32) (u : S), post r u → narrow ty (.int r) = .int r)
    (body : ∀ (p : Program) (e : Env) (s : State) (m : MethodId) (below : List Frame) (meth : Method) (c : Code) (A : Nat → Prop) (Q : State → Prop), Fx l p s m av.toArray meth c cc maxL own ws A D g z → c.exceptionTable.toList = tableOf hh → (∀ (r : Int32) (u : S) (k n : Nat) (lv : List (Nat × Value)) (pc : Nat), decode cc pc = .ok (.ireturn, 1) → k ≤ rm.cells → n ≤ rm.slots → post r u → J p l e rm s m av.toArray below meth c A D maxL Q k n (w1 u) lv [.int r] pc) → J p l e rm s m av.toArray below meth c A D maxL Q 0 0 wc (lv_args 0 av) [] 0) : HI l y ws hh fr lo n D g z av wc post w1 rm.cells rm.slots := by
  refine ⟨rm, ⟨rfl, rfl, hR.1, ⟨cc, maxL, _, ws', hw, hR.2⟩, hdd⟩, fun sz => ?_⟩
  refine vx_ofWH (cc := cc) (maxL := maxL) (ret := some ty) (hh := hh) hy hw ?_
  intro p e s m args below meth c s₁ B hml hv
  have hav := hv.1
  have hE := vx_table (x := y) B (atoms_spec (ws := ws) B.pre _ (by rw [hw]; exact List.mem_cons_self))
  obtain ⟨rfl, hsz, hP, hK, hD0, hSt⟩ := hv
  subst hsz
  have F : Fx l p s m av.toArray meth c cc maxL own ws (va_A wc s.heap.size) D g z := by
    subst how
    exact ⟨B.exec, B.bytes, hml, findClass_of_methodNamed B.named, atoms_spec (ws := ws) B.pre, hK, fun q h => Or.inr h, hSt, B.notSynchronized, hfl⟩
  refine J_start hP hD0.self va_S.rf hnn (body p e s m below meth c (va_A wc s.heap.size) _ F hE ?_)
  intro r u k n lv pc d hk hn9 hp H locs ls hP hD hS hl
  refine W.widen hk hn9 ?_
  exact vx_ret (W.zret (v := r) F.x F.b (B.returns) (hnar r u hp) (fun t ht hW => ⟨⟨r, u, rfl, hp, PosB_of ht hP hD⟩, hS.F ht⟩) hS.2.2 d F.lk)
/-- a wrapper is called -/
theorem j_callH (F : Fx l p s m args meth c cc nL own Ts A D g z) {As : List Value} {hh : List (Nat × Nat × Nat × Nat)} {post : Int32 → S → Prop} {w1 : S → va_W} (hM : HI l y wsy hh fr lo n D g z As wc post w1 mc ms) {idx : Nat} (hG : GoodIn Ts (va_wsS own idx y wsy)) (hn : As.length = n) (hlo : lo ≤ R.locals) (hfr : fr ≤ R.frames) (hst : (st.map fun v => v.category).sum ≤ 8) (hf : cells + mc ≤ R.cells ∧ slots + ms ≤ R.slots) (d : decode cc pc = .ok (.invokestatic idx, 3)) (kk : ∀ (r : Int32) (u : S), post r u → J p l e R s m args below meth c A D nL Q (cells + mc) (slots + ms) (w1 u ++ wr) lv (.int r :: st) (pc + 3)) : J p l e R s m args below meth c A D nL Q cells slots (wc ++ wr) lv (As.reverse ++ st) pc := by
  obtain ⟨rm, ⟨hrc, hrs, hfr0, ⟨bytes, maxL, ret, ws9, hw, hlo0⟩, hy1, hy2, hy3⟩, hM⟩ := hM
  intro H locs ls hP hD hS hl
  obtain ⟨hF, hpre⟩ := pre_call F hP hD hS _ (rng_C wc wr) (nd_range _ _) As
  refine vx_calli (vx_runSX (As := As) (rest := st) (hh := hh) F.fix (hM H.size) (vx_cwSW n F.ts hG hw hrc hrs ⟨hy1, hy2, hy3⟩ ⟨Nat.le_trans hfr0 hfr, Nat.le_trans hlo0 hlo⟩) ⟨PreB_blind, hpre⟩ rfl hn hl.1 rfl (lv_room hst) d hf) hS (fun q _ h => hF q h) hF (fun q _ h => hF q h) (fun E ce q9 u t H1 locs1 ht hvm hp hB hz1 hk1 hS1 hc1 hc2 hc3 => False.elim hp) (fun r u t H1 locs1 ht hvm hp hB hz1 hk1 hS1 => ?_)
  obtain ⟨hP1, hD1⟩ := pos_x hP hD ht hk1 hF hB
  exact kk r u hp H1 locs1 ls hP1 hD1 hS1 hl
theorem j_ldc (F : Fx l p s m args meth c cc nL own Ts A D g z) {n : Int} {index : Nat} {v : Int32} (h : Cond.constant own index v ∈ Ts) (hv : v = iI n) (d : decode cc pc = .ok (.ldc index, 2)) (k : J p l e R s m args below meth c A D nL Q cells slots ws lv (.int (iI n) :: st) (pc + 2)) : J p l e R s m args below meth c A D nL Q cells slots ws lv st pc := fun H locs ls hP hD hS hl => lv_ldc F.x F.b F.ow (F.ts _ h) d (by rw [hv]; exact k H locs ls hP hD hS hl)
theorem iI_div {a d : Int} (ha : 0 ≤ a ∧ a < 2147483648) (hd : 0 < d ∧ d < 2147483648) : iI a / iI d = iI (a / d) := by
  obtain ⟨x, rfl⟩ := Int.eq_ofNat_of_zero_le ha.1
  obtain ⟨y, rfl⟩ := Int.eq_ofNat_of_zero_le (Int.le_of_lt hd.1)
  rw [iI_nI rfl, iI_nI rfl, pk_div (by omega) (by omega) (by omega)]
  exact (iI_nI (by omega)).symm
theorem j_idiv (F : Fx l p s m args meth c cc nL own Ts A D g z) {a b : Int} (d : decode cc pc = .ok (.idiv, 1)) (ha : 0 ≤ a ∧ a < 2147483648) (hd : 0 < b ∧ b < 2147483648) (k : J p l e R s m args below meth c A D nL Q cells slots ws lv (.int (iI (a / b)) :: st) (pc + 1)) : J p l e R s m args below meth c A D nL Q cells slots ws lv (.int (iI b) :: .int (iI a) :: st) pc := fun H locs ls hP hD hS hl => lv_idiv F.x F.b d (by rw [iI_0, iI_eq ⟨by omega, by omega⟩ ⟨by omega, by omega⟩]; omega) (by rw [iI_div ha hd]; exact k H locs ls hP hD hS hl)
theorem j_scrld (F : Fx l p s m args meth c cc nL own Ts A D g z) {i : Int} (k : Nat) (hi : i = (k : Int)) (hk : k < z.2.1.2 ∧ z.2.1.2 ≤ 2147483647) (d : decode cc pc = .ok (.iaload, 1)) (kk : J p l e R s m args below meth c A D nL Q cells slots ws lv (.int (iI ((z.2.2 k).toInt)) :: st) (pc + 1)) : J p l e R s m args below meth c A D nL Q cells slots ws lv (.int (iI i) :: .ref z.2.1.1 :: st) pc := fun H locs ls hP hD hS hl => va_ti F.x F.b F.S.2.2.1 hS (iI_in hi hk.1 hk.2) (by rw [iI_cl hi (by omega)]) d (by rw [iI_of] at kk; exact kk H locs ls hP hD hS hl)
theorem j_scrlen (F : Fx l p s m args meth c cc nL own Ts A D g z) (d : decode cc pc = .ok (.arraylength, 1)) (kk : J p l e R s m args below meth c A D nL Q cells slots ws lv (.int (iI ((z.2.1.2 : Nat) : Int)) :: st) (pc + 1)) : J p l e R s m args below meth c A D nL Q cells slots ws lv (.ref z.2.1.1 :: st) pc := fun H locs ls hP hD hS hl => va_tlen F.x F.b F.S.2.2.1 hS (v := iI ((z.2.1.2 : Nat) : Int)) (iI_nI rfl).symm d (kk H locs ls hP hD hS hl)
theorem j_ishr (F : Fx l p s m args meth c cc nL own Ts A D g z) {x y v : Int32} (hv : x >>> (y &&& 31) = v) (d : decode cc pc = .ok (.ishr, 1)) (k : J p l e R s m args below meth c A D nL Q cells slots ws lv (.int v :: st) (pc + 1)) : J p l e R s m args below meth c A D nL Q cells slots ws lv (.int y :: .int x :: st) pc := fun H locs ls hP hD hS hl => lv_ishr F.x F.b d (by rw [hv]; exact k H locs ls hP hD hS hl)
theorem shr_some (x y : Int32) : ∃ w : Int, rg w ∧ x >>> (y &&& 31) = iI w := ⟨(x >>> (y &&& 31)).toInt, rg_of _, (iI_of _).symm⟩
theorem and31 (v : Int32) : ∃ k : Nat, k < 2147483648 ∧ v &&& iI 2147483647 = iI (k : Int) := by
  have e : iI 2147483647 = (2147483647 : Int32) := by decide
  rw [e]
  refine ⟨(v.toBitVec &&& 2147483647#32).toNat, ?_, ?_⟩
  · rw [BitVec.toNat_and]
    exact Nat.lt_of_le_of_lt Nat.and_le_right (by decide)
  · apply Int32.toBitVec_inj.1
    show v.toBitVec &&& 2147483647#32 = BitVec.ofInt 32 (((v.toBitVec &&& 2147483647#32).toNat : Nat) : Int)
    rw [BitVec.ofInt_natCast, BitVec.ofNat_toNat, BitVec.setWidth_eq]
theorem j_lload (F : Fx l p s m args meth c cc nL own Ts A D g z) {i : Nat} {v : Int64} (d : decode cc pc = .ok (.lload i, 2)) (q : Nat) (h : lv[q]? = some (i, .long v)) (kk : J p l e R s m args below meth c A D nL Q cells slots ws lv (.long v :: st) (pc + 2)) : J p l e R s m args below meth c A D nL Q cells slots ws lv st pc := fun H locs ls hP hD hS hl => lv_lload F.x F.b d (lv_at hl q h) (kk H locs ls hP hD hS hl)
theorem j_lstore (F : Fx l p s m args meth c cc nL own Ts A D g z) {i : Nat} {v : Int64} {lv' : List (Nat × Value)} (d : decode cc pc = .ok (.lstore i, 2)) (hn : i + 1 < nL) (h : (i, Value.long v) :: lv.filter (fun q => !(q.1 == i) && (!(q.1 == i + 1) && !(q.1 + 1 == i && q.2.category == 2))) = lv') (kk : J p l e R s m args below meth c A D nL Q cells slots ws lv' st (pc + 2)) : J p l e R s m args below meth c A D nL Q cells slots ws lv (.long v :: st) pc := fun H locs ls hP hD hS hl => lv_lstore F.x F.b d hl hn h (fun ls' hl' => kk H locs ls' hP hD hS hl')
theorem j_ifr_eq (F : Fx l p s m args meth c cc nL own Ts A D g z) {x : Int32} {off : Int} {tgt : Nat} (d : decode cc pc = .ok (.ifCond .eq off, 3)) (ht : (pc : Int) + off = (tgt : Int)) (k1 : x = 0 → J p l e R s m args below meth c A D nL Q cells slots ws lv st tgt) (k2 : ¬ x = 0 → J p l e R s m args below meth c A D nL Q cells slots ws lv st (pc + 3)) : J p l e R s m args below meth c A D nL Q cells slots ws lv (.int x :: st) pc := fun H locs ls hP hD hS hl => lv_if_eq F.x F.b d ht (fun h => k1 h H locs ls hP hD hS hl) (fun h => k2 h H locs ls hP hD hS hl)
theorem j_ifr_ne (F : Fx l p s m args meth c cc nL own Ts A D g z) {x : Int32} {off : Int} {tgt : Nat} (d : decode cc pc = .ok (.ifCond .ne off, 3)) (ht : (pc : Int) + off = (tgt : Int)) (k1 : ¬ x = 0 → J p l e R s m args below meth c A D nL Q cells slots ws lv st tgt) (k2 : x = 0 → J p l e R s m args below meth c A D nL Q cells slots ws lv st (pc + 3)) : J p l e R s m args below meth c A D nL Q cells slots ws lv (.int x :: st) pc := fun H locs ls hP hD hS hl => lv_if_ne F.x F.b d ht (fun h => k1 h H locs ls hP hD hS hl) (fun h => k2 h H locs ls hP hD hS hl)
theorem modN (a b : Nat) : ((a : Nat) : Int) % ((b : Nat) : Int) = ((a % b : Nat) : Int) := (Int.natCast_emod a b).symm
theorem divN (a b : Nat) : ((a : Nat) : Int) / ((b : Nat) : Int) = ((a / b : Nat) : Int) := (Int.natCast_ediv a b).symm
theorem nup2 (f : Nat → Int) (k : Nat) (a b : Int) : nup (nup f k a) k b = nup f k b := by
  funext j
  unfold nup
  by_cases q : j = k
  · rw [if_pos q, if_pos q]
  · rw [if_neg q, if_neg q, if_neg q]
end LAWROWS
