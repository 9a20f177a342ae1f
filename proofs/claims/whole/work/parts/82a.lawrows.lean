/-! ===== LAW: rows for the law's own walk; its wrappers ===== -/
section LAWROWS
variable {l : Launch} {p : Program} {e : Env} {R : Room} {s : State} {m : MethodId} {args : Array Value} {below : List Frame} {meth : Method} {c : Code} {cc : ByteArray} {nL : Nat} {own : String} {Ts : List Cond} {A : Nat → Prop} {D : va_G} {g : GT} {z : ZT} {Q : State → Prop} {cells slots : Nat} {ws : va_W} {lv : List (Nat × Value)} {st : List Value} {pc : Nat}
variable {y : MethodName} {wsy : List Cond} {fr lo n mc ms : Nat} {wc wr : va_W} {S SX : Type}
theorem j_astore (F : Fx l p s m args meth c cc nL own Ts A D g z) {i : Nat} {v : Nat} {lv' : List (Nat × Value)} (d : decode cc pc = .ok (.astore i, 2)) (hn : i < nL) (h : (i, Value.ref v) :: lv.filter (fun q => !(q.1 == i) && !(q.1 + 1 == i && q.2.category == 2)) = lv') (kk : J p l e R s m args below meth c A D nL Q cells slots ws lv' st (pc + 2)) : J p l e R s m args below meth c A D nL Q cells slots ws lv (.ref v :: st) pc := fun H locs ls hP hD hS hl => lv_astore F.x F.b d hl hn h (fun ls' hl' => kk H locs ls' hP hD hS hl')
/-- a loop whose room grows -/
theorem J_loopC {σ : Type} (I : σ → Prop) (μ : σ → Nat) (cf sf : σ → Nat) (wl : σ → va_W) (lvf : σ → List (Nat × Value)) (x0 : σ) (h0 : I x0) (step : ∀ x, I x → (∀ y, I y → μ y < μ x → J p l e R s m args below meth c A D nL Q (cf y) (sf y) (wl y) (lvf y) st pc) → J p l e R s m args below meth c A D nL Q (cf x) (sf x) (wl x) (lvf x) st pc) : J p l e R s m args below meth c A D nL Q (cf x0) (sf x0) (wl x0) (lvf x0) st pc := by
  have key : ∀ (n : Nat) (x : σ), μ x < n → I x → J p l e R s m args below meth c A D nL Q (cf x) (sf x) (wl x) (lvf x) st pc := by
    intro n
    induction n with
    | zero => intro x h; exact absurd h (Nat.not_lt_zero _)
    | succ n ih => intro x h hI; exact step x hI (fun y hy hm => ih y (by omega) hy)
  exact key (μ x0 + 1) x0 (Nat.lt_succ_self _) h0
/-- the script, read -/
def xI (xs : Nat → Int32) : Nat → Int := fun k => (xs k).toInt
theorem xI_rg (xs : Nat → Int32) (k : Nat) : rg (xI xs k) := rg_of _
theorem j_sld (F : Fx l p s m args meth c cc nL own Ts A D g z) {b L : Nat} {xs : Nat → Int32} (hX : va_X b L xs s s.heap) (hbl : b < s.heap.size) (hbA : ¬ A b) {i : Int} (k : Nat) (hi : i = (k : Int)) (hk : k < L) (hL : L ≤ 1536) (d : decode cc pc = .ok (.iaload, 1)) (kk : J p l e R s m args below meth c A D nL Q cells slots ws lv (.int (iI (xI xs k)) :: st) (pc + 1)) : J p l e R s m args below meth c A D nL Q cells slots ws lv (.int (iI i) :: .ref b :: st) pc := fun H locs ls hP hD hS hl => va_sld F.x F.b hX hbl hbA hS (iI_in hi hk (by omega)) d (by
  have e1 : iI (xI xs k) = xs k := iI_of _
  rw [iI_cl hi (by omega), ← e1]
  exact kk H locs ls hP hD hS hl)
theorem j_slena (F : Fx l p s m args meth c cc nL own Ts A D g z) {b L : Nat} {xs : Nat → Int32} (hX : va_X b L xs s s.heap) (hbl : b < s.heap.size) (hbA : ¬ A b) (d : decode cc pc = .ok (.arraylength, 1)) (kk : J p l e R s m args below meth c A D nL Q cells slots ws lv (.int (iI (L : Int)) :: st) (pc + 1)) : J p l e R s m args below meth c A D nL Q cells slots ws lv (.ref b :: st) pc := fun H locs ls hP hD hS hl => va_slen F.x F.b hX hbl hbA hS d (kk H locs ls hP hD hS hl)
theorem and63 (v : Int32) : ∃ k : Nat, k < 64 ∧ v &&& 63 = iI (k : Int) := by
  refine ⟨(v.toBitVec &&& 63#32).toNat, ?_, ?_⟩
  · rw [BitVec.toNat_and]
    exact Nat.lt_of_le_of_lt Nat.and_le_right (by decide)
  · apply Int32.toBitVec_inj.1
    show v.toBitVec &&& 63#32 = BitVec.ofInt 32 (((v.toBitVec &&& 63#32).toNat : Nat) : Int)
    rw [BitVec.ofInt_natCast, BitVec.ofNat_toNat, BitVec.setWidth_eq]
theorem j_tabIn (F : Fx l p s m args meth c cc nL own Ts A D g z) {dflt lo9 hi9 : Int} {offs : Array Int} {len : Nat} {x : Int} {off : Int} {tgt : Nat} (hx : rg x) (d : decode cc pc = .ok (.tableswitch dflt lo9 hi9 offs, len)) (h1 : lo9 ≤ x) (h2 : x ≤ hi9) (ho : offs[(x - lo9).toNat]? = some off) (ht : (pc : Int) + off = (tgt : Int)) (kk : J p l e R s m args below meth c A D nL Q cells slots ws lv st tgt) : J p l e R s m args below meth c A D nL Q cells slots ws lv (.int (iI x) :: st) pc := fun H locs ls hP hD hS hl => lv_tableIn F.x F.b d (by rw [iI_T hx]; omega) (by rw [iI_T hx]; omega) (by rw [iI_T hx]; exact ho) ht (kk H locs ls hP hD hS hl)
theorem j_tabOut (F : Fx l p s m args meth c cc nL own Ts A D g z) {dflt lo9 hi9 : Int} {offs : Array Int} {len : Nat} {x : Int} {tgt : Nat} (hx : rg x) (d : decode cc pc = .ok (.tableswitch dflt lo9 hi9 offs, len)) (h : x < lo9 ∨ hi9 < x) (ht : (pc : Int) + dflt = (tgt : Int)) (kk : J p l e R s m args below meth c A D nL Q cells slots ws lv st tgt) : J p l e R s m args below meth c A D nL Q cells slots ws lv (.int (iI x) :: st) pc := fun H locs ls hP hD hS hl => lv_tableOut F.x F.b d (by rw [iI_T hx]; exact h) ht (kk H locs ls hP hD hS hl)
/-- caught here: E by a row that names it; rows before name others -/
theorem JX_catch (F : Fx l p s m args meth c cc nL own Ts A D g z) {E : String} (pre : List ExceptionTableEntry) (x : ExceptionTableEntry) (suf : List ExceptionTableEntry) (hsplit : c.exceptionTable.toList = pre ++ x :: suf) (hpass : ∀ y ∈ pre, y.catchType ≠ 0 ∧ ∃ nm : String, Cond.classLink own y.catchType nm ∈ Ts ∧ (E, nm) ∈ ncWs) (hx : covers x pc = true) (h0 : x.catchType ≠ 0) (hlink : Cond.classLink own x.catchType E ∈ Ts) (hcast : (E, E) ∈ castWs) (kk : ∀ q : Nat, J p l e R s m args below meth c A D nL Q cells slots ws lv [.ref q] x.handlerPc) : JX p l e R s m args below meth c A D nL Q cells slots ws lv E pc :=
  fun H locs ls q9 ce rest hP hD hS hl h1 h2 h3 => vx_catch F.ow pre x suf hsplit (fun y hy => Or.inr ⟨(hpass y hy).1, (hpass y hy).2.elim fun nm h => ⟨nm, F.ts _ h.1, F.S.2.2.2.2.2.2.2.2.2.2.2.2.2.1 _ h.2⟩⟩) hx h0 (F.ts _ hlink) ((F.S.2.2.2.2.2.2.2.2.2.2.1 _ hcast).use rfl) h1 h2 h3 (kk q9 H locs ls hP hD hS hl)
theorem JX_wid {E : String} {k n : Nat} (h1 : cells ≤ k) (h2 : slots ≤ n) (kk : JX p l e R s m args below meth c A D nL Q k n ws lv E pc) : JX p l e R s m args below meth c A D nL Q cells slots ws lv E pc := fun H locs ls q9 ce rest hP hD hS hl a1 a2 a3 => vx_widen h1 h2 (kk H locs ls q9 ce rest hP hD hS hl a1 a2 a3)
/-- what a caller must know of a wrapper, a method with handlers -/
def CalH (y : MethodName) (ws : List Cond) (hh : List (Nat × Nat × Nat × Nat)) (rm : Room) (fr lo n mc ms : Nat) : Prop :=
  rm.cells = mc ∧ rm.slots = ms ∧ rm.frames + 1 ≤ fr ∧ (∃ (bytes : ByteArray) (maxL : Nat) (ret : Option FieldType) (ws' : List Cond), ws = Cond.codeWith y bytes maxL ret hh :: ws' ∧ 8 + (maxL + 11) + rm.locals ≤ lo) ∧ y.cls ≠ "java/lang/invoke/MethodHandle" ∧ y.cls ≠ "java/lang/invoke/VarHandle" ∧ (parseMethodDescriptor y.desc).map (fun d => d.parameters.length) = some n
def HI (l : Launch) (y : MethodName) (ws : List Cond) (hh : List (Nat × Nat × Nat × Nat)) (fr lo n : Nat) (D : va_G) (g : GT) (z : ZT) (av : List Value) (wc : va_W) {S : Type} (post : Int32 → S → Prop) (w1 : S → va_W) (mc ms : Nat) : Prop :=
  ∃ rm : Room, CalH y ws hh rm fr lo n mc ms ∧ ∀ sz : Nat, vx_Met l y ws rm (va_Pc av (PreB D g z wc sz)) (va_Qi post (fun u t => PosB D (w1 u) (va_A wc sz) t) (va_A wc sz)) (XCq (SX := Unit) D (fun _ _ => False) (fun _ => []) (va_A wc sz)) mc ms (va_A wc sz)
theorem HI_of {l : Launch} (hfl : l.flags = flags0) {D : va_G} {g : GT} {z : ZT} {y : MethodName} {ws ws' : List Cond} {cc : ByteArray} {maxL : Nat} {hh : List (Nat × Nat × Nat × Nat)} {av : List Value} {wc : va_W} {S : Type} {post : Int32 → S → Prop} {w1 : S → va_W} (rm : Room) (fr lo n : Nat) {own : String} (hy : plainName y.cls = true) (hw : ws = Cond.codeWith y cc maxL (some .int) hh :: ws') (how : y.cls = own) (hdd : y.cls ≠ "java/lang/invoke/MethodHandle" ∧ y.cls ≠ "java/lang/invoke/VarHandle" ∧ (parseMethodDescriptor y.desc).map (fun d => d.parameters.length) = some n) (hR : rm.frames + 1 ≤ fr ∧ 8 + (maxL + 11) + rm.locals ≤ lo) (hnn : (lg_sl av).length ≤ maxL)
    (body : ∀ (p : Program) (e : Env) (s : State) (m : MethodId) (below : List Frame) (meth : Method) (c : Code) (A : Nat → Prop) (Q : State → Prop), Fx l p s m av.toArray meth c cc maxL own ws A D g z → c.exceptionTable.toList = tableOf hh → (∀ (r : Int32) (u : S) (k n : Nat) (lv : List (Nat × Value)) (pc : Nat), decode cc pc = .ok (.ireturn, 1) → k ≤ rm.cells → n ≤ rm.slots → post r u → J p l e rm s m av.toArray below meth c A D maxL Q k n (w1 u) lv [.int r] pc) → J p l e rm s m av.toArray below meth c A D maxL Q 0 0 wc (lv_args 0 av) [] 0) : HI l y ws hh fr lo n D g z av wc post w1 rm.cells rm.slots := by
  refine ⟨rm, ⟨rfl, rfl, hR.1, ⟨cc, maxL, _, ws', hw, hR.2⟩, hdd⟩, fun sz => ?_⟩
  refine vx_ofWH (cc := cc) (maxL := maxL) (ret := some .int) (hh := hh) hy hw ?_
  intro p e s m args below meth c s₁ B hml hv
  have hav := hv.1
  have hE := vx_table (x := y) B (atoms_spec (ws := ws) B.pre _ (by rw [hw]; exact List.mem_cons_self))
  obtain ⟨rfl, hsz, hP, hK, hD0, hSt⟩ := hv
  subst hsz
  have F : Fx l p s m av.toArray meth c cc maxL own ws (va_A wc s.heap.size) D g z := by
    subst how
    exact ⟨B.exec, B.bytes, hml, findClass_of_methodNamed B.named, atoms_spec (ws := ws) B.pre, hK, fun q h => Or.inr h, hSt, B.notSynchronized, hfl⟩
  refine J_start hP hD0.self va_S.rf hnn (body p e s m below meth c (va_A wc s.heap.size) _ F hE ?_)
  intro r u k n lv pc d hk hn9 hp H locs ls hP hD hS hl
  refine W.widen hk hn9 ?_
  exact vx_ret (W.zret (v := r) F.x F.b (B.returns) (vp_nar_int r) (fun t ht hW => ⟨⟨r, u, rfl, hp, PosB_of ht hP hD⟩, hS.F ht⟩) hS.2.2 d F.lk)
/-- a wrapper is called -/
theorem j_callH (F : Fx l p s m args meth c cc nL own Ts A D g z) {As : List Value} {hh : List (Nat × Nat × Nat × Nat)} {post : Int32 → S → Prop} {w1 : S → va_W} (hM : HI l y wsy hh fr lo n D g z As wc post w1 mc ms) {idx : Nat} (hG : GoodIn Ts (va_wsS own idx y wsy)) (hn : As.length = n) (hlo : lo ≤ R.locals) (hfr : fr ≤ R.frames) (hst : (st.map fun v => v.category).sum ≤ 8) (hf : cells + mc ≤ R.cells ∧ slots + ms ≤ R.slots) (d : decode cc pc = .ok (.invokestatic idx, 3)) (kk : ∀ (r : Int32) (u : S), post r u → J p l e R s m args below meth c A D nL Q (cells + mc) (slots + ms) (w1 u ++ wr) lv (.int r :: st) (pc + 3)) : J p l e R s m args below meth c A D nL Q cells slots (wc ++ wr) lv (As.reverse ++ st) pc := by
  obtain ⟨rm, ⟨hrc, hrs, hfr0, ⟨bytes, maxL, ret, ws9, hw, hlo0⟩, hy1, hy2, hy3⟩, hM⟩ := hM
  intro H locs ls hP hD hS hl
  obtain ⟨hF, hpre⟩ := pre_call F hP hD hS _ (rng_C wc wr) (nd_range _ _) As
  refine vx_calli (vx_runSX (As := As) (rest := st) (hh := hh) F.fix (hM H.size) (vx_cwSW n F.ts hG hw hrc hrs ⟨hy1, hy2, hy3⟩ ⟨Nat.le_trans hfr0 hfr, Nat.le_trans hlo0 hlo⟩) ⟨PreB_blind, hpre⟩ rfl hn hl.1 rfl (lv_room hst) d hf) hS (fun q _ h => hF q h) hF (fun q _ h => hF q h) (fun E ce q9 u t H1 locs1 ht hvm hp hB hz1 hk1 hS1 hc1 hc2 hc3 => False.elim hp) (fun r u t H1 locs1 ht hvm hp hB hz1 hk1 hS1 => ?_)
  obtain ⟨hP1, hD1⟩ := pos_x hP hD ht hk1 hF hB
  exact kk r u hp H1 locs1 ls hP1 hD1 hS1 hl
end LAWROWS
theorem sbn_new {s t : State} {L : List Loc} {k n : Nat} (h : s.sameButNew t L k n) (hL : ∀ q ∈ L, s.heap.size ≤ q.base) : s.sameButNew t [] k n := by
  obtain ⟨h1, h2, h3, h4, h5, h6⟩ := h
  refine ⟨h1, h2, h3, h4, h5, fun a c ha => ?_⟩
  obtain ⟨c', e1, e2, e3, e4⟩ := h6 a c ha
  refine ⟨c', e1, e2, e3, fun i _ => e4 i (fun hm => ?_)⟩
  have hlt : a < s.heap.size := (Array.getElem?_eq_some_iff.mp ha).1
  have hge : s.heap.size ≤ a := hL _ hm
  exact absurd hlt (Nat.not_lt.mpr hge)
theorem law_ret {p : Program} {l : Launch} {e : Env} {s : State} {m : MethodId} {below : List Frame} {meth : Method} {c : Code} {b : Nat} (hx : p.tables.exec = Jvm.exec) (hb : c.code = code) (hr : meth.sig.returnType = ret) (hlocks : meth.locks = false) {pc : Nat} {H : Heap} {locs : List Loc} (hL : ∀ q ∈ locs, s.heap.size ≤ q.base) {ls : Array Slot} (hdg : decode code pc = .ok (.ireturn, 1)) : W p l e room_1 s m #[Value.ref b] below meth c H locs 601024 7293033 (lw_Z below #[Value.ref b] s) (F0 m pc ls [.int 1]) := by
  have hd0 : s.drawn.sameBut s.drawn lw_cs := Drawn.sameBut.refl s.drawn lw_cs
  intro T hT X
  obtain ⟨fs, hret, hrun, hended, hW, hframe⟩ := X.leave (v := some (.int 1)) (hlocks := hlocks) (fun h => by rw [hr] at h; cases h)
  have hmeth' : T.vm.method? m = some meth := X.method'
  refine ⟨T.setFrames fs, ?_, .returned (some (.int 1)), hrun, hended, rfl, lw_closed (d0 := s.drawn) hd0 ⟨_, rfl⟩ hW (sbn_new hframe hL)⟩
  jvm_step X.here [X.here.top, hx, hb, hdg, hmeth', hr, ret, narrow_b1]
  (try refine ⟨rfl, ?_⟩); (try refine ⟨rfl, ?_⟩)
  first | (intro acts; rw [hret _ acts rfl rfl rfl]) | rw [hret _ _ rfl rfl rfl]
  exact Steps.refl _
