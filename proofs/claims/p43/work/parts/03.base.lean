/-! ===== BASE: ints as integers, arrays of them, the judgement J, contracts CI CV CL CR and their calls ===== -/
section BASE
def iI (z : Int) : Int32 := Int32.ofInt z
def rg (z : Int) : Prop := -2147483648 ≤ z ∧ z < 2147483648
theorem iI_T {z : Int} (h : rg z) : (iI z).toInt = z := by
  obtain ⟨h1, h2⟩ := h
  have e : z.bmod (2 ^ 32) = z := Int.bmod_eq_of_le (by omega) (by omega)
  exact Int32.toInt_ofInt.trans e
theorem iI_of (x : Int32) : iI x.toInt = x := Int32.ofInt_toInt x
theorem rg_of (x : Int32) : rg x.toInt := by
  have h1 := Int32.le_toInt x
  have h2 := Int32.toInt_lt x
  exact ⟨by omega, by omega⟩
theorem iI_add (a b : Int) : iI a + iI b = iI (a + b) := (Int32.ofInt_add a b).symm
theorem iI_sub (a b : Int) : iI a - iI b = iI (a - b) := (Int32.ofInt_sub a b).symm
theorem iI_mul (a b : Int) : iI a * iI b = iI (a * b) := (Int32.ofInt_mul a b).symm
theorem iI_lt {a b : Int} (ha : rg a) (hb : rg b) : iI a < iI b ↔ a < b := by rw [Int32.lt_iff_toInt_lt, iI_T ha, iI_T hb]
theorem iI_le {a b : Int} (ha : rg a) (hb : rg b) : iI a ≤ iI b ↔ a ≤ b := by rw [Int32.le_iff_toInt_le, iI_T ha, iI_T hb]
theorem iI_eq {a b : Int} (ha : rg a) (hb : rg b) : iI a = iI b ↔ a = b := by rw [← Int32.toInt_inj, iI_T ha, iI_T hb]
theorem iI_0 : (0 : Int32) = iI 0 := by decide
theorem iI_cl {z : Int} {k : Nat} (h : z = k) (hk : k < 2147483648) : (iI z).toNatClampNeg = k := by
  show (iI z).toInt.toNat = k
  rw [iI_T ⟨by omega, by omega⟩]
  omega
theorem iI_in {z : Int} {k n : Nat} (h : z = k) (hk : k < n) (hn : n ≤ 2147483647) : vp_in (iI z) n := by
  rw [vp_in_iff, iI_T ⟨by omega, by omega⟩]
  omega
theorem iI_nI {z : Int} {n : Nat} (h : z = n) : iI z = nI n := by
  subst h
  exact Int32.ofInt_eq_ofNat
theorem iI_rem {a d : Int} (ha : 0 ≤ a ∧ a < 2147483648) (hd : 0 < d ∧ d < 2147483648) : iI a - iI a / iI d * iI d = iI (a % d) := by
  obtain ⟨x, rfl⟩ := Int.eq_ofNat_of_zero_le ha.1
  obtain ⟨y, rfl⟩ := Int.eq_ofNat_of_zero_le (Int.le_of_lt hd.1)
  rw [iI_nI rfl, iI_nI rfl, pk_rem (by omega) (by omega) (by omega)]
  exact (iI_nI (by omega)).symm
/-- an int array's contents by integers -/
def nA (a : Nat → Int) : Nat → Int32 := fun k => iI (a k)
def nup (a : Nat → Int) (k : Nat) (v : Int) : Nat → Int := fun j => if j = k then v else a j
theorem nup_s (a : Nat → Int) (k : Nat) (v : Int) : nup a k v k = v := by simp [nup]
theorem nup_n (a : Nat → Int) {k j : Nat} (v : Int) (h : j ≠ k) : nup a k v j = a j := by simp [nup, h]
theorem nA_up (a : Nat → Int) (k : Nat) (v : Int) : upd (nA a) k (iI v) = nA (nup a k v) := by
  funext j
  by_cases h : j = k
  · subst h; simp [upd, nA, nup]
  · simp [upd, nA, nup, h]
abbrev GT : Type := Nat → ClassId
abbrev tysG (g : GT) : List (ClassId × FieldType) := [(g 0, .int), (g 1, .boolean), (g 2, .char), (g 3, .int), (g 4, .object "CairnGame$Solution"), (g 5, .object "CairnGame$State")]
abbrev iR (g : GT) (n : Nat) (a : Nat → Int) : va_E := .inl (g 0, n, .inl (nA a))
abbrev zR (g : GT) (n : Nat) (a : Nat → Int) : va_E := .inl (g 1, n, .inl (nA a))
abbrev cR (g : GT) (n : Nat) (a : Nat → Int) : va_E := .inl (g 2, n, .inl (nA a))
abbrev lR (g : GT) (n : Nat) (a : Nat → Int64) : va_E := .inl (g 3, n, .inr (.inl a))
abbrev soR (g : GT) (n : Nat) (a : Nat → Option Nat) : va_E := .inl (g 4, n, .inr (.inr (.inr (.inr a))))
abbrev stR (g : GT) (n : Nat) (a : Nat → Option Nat) : va_E := .inl (g 5, n, .inr (.inr (.inr (.inr a))))
/-- what never changes: the table of weights, the script (its cell, how long, its ints), the words of the nest, what a throw needs -/
abbrev ZT : Type := Nat × (Nat × Nat) × (Nat → Int32)
def wtL : List Int := [0, 1, 13, 68, 182, 288, 435, 100, 244, 145, 35, 24, 38]
def wtB : Nat → Int := fun j => wtL.getD j 0
def nestWs : List Cond := [.methodLinkNest RX6 11 yX4_init RX6, .methodLinkNest RX0 24 yX4_init RX6, .methodLinkNest RX6 25 yX1_init RX6, .methodLinkNest RX6 32 yX3_init RX6, .methodLinkNest RX3 19 yX4_init RX6, .methodLinkNest RX3 26 yX1_init RX6, .methodLinkNest RX6 39 yX5_init RX6, .methodLinkNest RX4 45 yX6_weightOf RX6, .methodLinkNest RX1 55 yX6_weightOf RX6, .methodLinkNest RX4 49 yX6_bit RX6]
def castWs : List (String × String) := [("java/lang/IllegalArgumentException", "java/lang/IllegalArgumentException"), ("java/lang/IllegalStateException", "java/lang/IllegalStateException"), ("java/lang/IndexOutOfBoundsException", "java/lang/IndexOutOfBoundsException")]
def exWs : List Cond := [.superclass Bundle.tN "java/lang/Object", .declares (Bundle.initS "java/lang/RuntimeException"), .declares (Bundle.initS "java/lang/Exception"), .declares (Bundle.initS Bundle.tN)]
theorem sup_alike {a b : String} {u U : State} (h : u.vm.Alike U.vm) (hZ : va_Nw (.superclass a b) u) : va_Nw (.superclass a b) U := by
  have hfc : ∀ x, U.vm.findClass x = u.vm.findClass x := fun x => h.findClass x _
  have hZ2 := hZ
  unfold va_Nw Cond.before Cond.holds at hZ2
  simp only [Cond.value] at hZ2
  cases hc : u.vm.findClass a with
  | none => simp [hc] at hZ2
  | some c =>
    obtain ⟨p, k, kp, h1, h2, h3, h4, h5, h6, h7⟩ := Cond.superclass_spec hc (show (Cond.superclass a b).holds #[] u none u [] = true from hZ)
    obtain ⟨k', e1, e2⟩ := h.2.2 c k h2
    obtain ⟨kp', e3, e4⟩ := h.2.2 p kp h3
    unfold va_Nw Cond.before Cond.holds
    simp only [Cond.value, hfc, hc, h1, e1, e3]
    rw [e2, e4]
    simp [h4, h5, h6]
    exact h7
theorem exWs_on {u U : State} (hal : u.vm.Alike U.vm) {w : Cond} (hw : w ∈ exWs) (h : va_Nw w u) : va_Nw w U := by
  simp only [exWs, List.mem_cons, List.not_mem_nil, or_false] at hw
  rcases hw with rfl | rfl | rfl | rfl
  · exact sup_alike hal h
  · exact va_tabs rfl (rfl : (u.setVm U.vm).vm = U.vm) (by rw [Cond.declares_setVm hal]; exact h)
  · exact va_tabs rfl (rfl : (u.setVm U.vm).vm = U.vm) (by rw [Cond.declares_setVm hal]; exact h)
  · exact va_tabs rfl (rfl : (u.setVm U.vm).vm = U.vm) (by rw [Cond.declares_setVm hal]; exact h)
def ncWs : List (String × String) := []
def aoWs : List String := ["CairnGame$Solution", "CairnGame$State"]
def msgs : List (Nat × String) := [(57, "a heap has 1 to 12 stones"), (64, "there would be more than 12 stones"), (75, "the greatest take is 1 to 5"), (285, "there is no such heap"), (94, "1 to 5 stones are taken"), (288, "this is no move"), (103, "a first part has 1 to 6 stones"), (105, "two heaps are merged"), (290, "there is no such move"), (136, "there is no such kind")]
def St (z : ZT) (A : Nat → Prop) (U : State) (H : Heap) : Prop :=
  va_Z "CairnGame" "WEIGHTS" "[I" (.ref z.1) A U H ∧ va_T .int z.1 13 (fun j => .int (iI (wtB j))) A U H ∧ va_T .int z.2.1.1 z.2.1.2 (fun j => .int (z.2.2 j)) A U H ∧ True ∧
  True ∧ True ∧ (∀ q ∈ msgs, ∃ sa, vk_R RX6 q.1 q.2 sa U) ∧ vx_Zq Bundle.tN "UNASSIGNED_STACK" Bundle.steD A U H ∧ vx_Zq Bundle.tN "SUPPRESSED_SENTINEL" Bundle.listD A U H ∧
  (∀ w ∈ nestWs, va_Nw w U) ∧ (∀ q ∈ castWs, va_Nw (.castable q.1 q.2) U) ∧ (∀ q ∈ aoWs, va_AO q U) ∧ True ∧ (∀ q ∈ ncWs, va_Nc q.1 q.2 U) ∧ (∀ w ∈ exWs, va_Nw w U)
theorem nestWs_warm {s U : State} (hW : s.WarmedH U.vm) {w : Cond} (hw : w ∈ nestWs) (h : va_Nw w s) : va_Nw w U := by
  simp only [nestWs, List.mem_cons, List.not_mem_nil, or_false] at hw
  rcases hw with rfl | rfl | rfl | rfl | rfl | rfl | rfl | rfl | rfl | rfl <;> exact va_Nw.warmM hW h
theorem nestWs_on {w : Cond} (hw : w ∈ nestWs) : w.onTables = true := by
  simp only [nestWs, List.mem_cons, List.not_mem_nil, or_false] at hw
  rcases hw with rfl | rfl | rfl | rfl | rfl | rfl | rfl | rfl | rfl | rfl <;> rfl
theorem St.same {z : ZT} {A : Nat → Prop} {u U : State} {H : Heap} (hv : U.vm = u.vm) (h : St z A u H) : St z A U H := by
  have hal : u.vm.Alike U.vm := by rw [hv]; exact Vm.Alike.refl _
  obtain ⟨h1, h2, h3, h4, h5, h6, h7, h8, h9, h10, h11, h12, h13, h14, h15⟩ := h
  exact ⟨h1.moved hal, h2.moved hal, h3.moved hal, h4, h5, h6, fun q hq => (h7 q hq).elim fun sa h => ⟨sa, h.same hv⟩, h8.moved hal, h9.moved hal, fun w hw => (h10 w hw).same (nestWs_on hw) hv.symm, fun q hq => (h11 q hq).same rfl hv.symm, fun q hq => (h12 q hq).moved hal, h13, fun q hq => (h14 q hq).moved hal, fun w hw => exWs_on hal hw (h15 w hw)⟩
theorem St.to {z : ZT} {A B : Nat → Prop} {s U : State} {H : Heap} {locs : List Loc} (h : St z A s s.heap) (hS : va_S A s.heap H locs) (hAB : ∀ q, B q → A q) (hW : s.WarmedH U.vm) : St z B U H := by
  obtain ⟨h1, h2, h3, h4, h5, h6, h7, h8, h9, h10, h11, h12, h13, h14, h15⟩ := h
  have hk := hS.2.1
  exact ⟨((h1.kept hk).narrow hAB).moved hW.alike, ((h2.kept hk).narrow hAB).moved hW.alike, ((h3.kept hk).narrow hAB).moved hW.alike, h4, h5, h6, fun q hq => (h7 q hq).elim fun sa h => ⟨sa, h.warm hW⟩, ((h8.kept hk).narrow hAB).moved hW.alike, ((h9.kept hk).narrow hAB).moved hW.alike, fun w hw => nestWs_warm hW hw (h10 w hw), fun q hq => (h11 q hq).warmC hW, fun q hq => (h12 q hq).moved hW.alike, h13, fun q hq => (h14 q hq).moved hW.alike, fun w hw => exWs_on hW.alike hw (h15 w hw)⟩
/-- what a walk has at hand throughout -/
def Fx (l : Launch) (p : Program) (s : State) (m : MethodId) (args : Array Value) (meth : Method) (c : Code) (cc : ByteArray) (nL : Nat) (own : String) (Ts : List Cond) (A : Nat → Prop) (D : va_G) (g : GT) (z : ZT) : Prop :=
  p.tables.exec = Jvm.exec ∧ c.code = cc ∧ c.maxLocals = nL ∧ s.vm.findClass own = some m.cls ∧ (∀ w ∈ Ts, w.before args s = true) ∧ va_K D vwCl (tysG g) s ∧ (∀ q, s.heap.size ≤ q → A q) ∧ St z A s s.heap ∧ meth.locks = false ∧ l.flags = flags0
section FX
variable {l : Launch} {p : Program} {s : State} {m : MethodId} {args : Array Value} {meth : Method} {c : Code} {cc : ByteArray} {nL : Nat} {own : String} {Ts : List Cond} {A : Nat → Prop} {D : va_G} {g : GT} {z : ZT}
theorem Fx.x (F : Fx l p s m args meth c cc nL own Ts A D g z) : p.tables.exec = Jvm.exec := F.1
theorem Fx.b (F : Fx l p s m args meth c cc nL own Ts A D g z) : c.code = cc := F.2.1
theorem Fx.ml (F : Fx l p s m args meth c cc nL own Ts A D g z) : c.maxLocals = nL := F.2.2.1
theorem Fx.ow (F : Fx l p s m args meth c cc nL own Ts A D g z) : s.vm.findClass own = some m.cls := F.2.2.2.1
theorem Fx.ts (F : Fx l p s m args meth c cc nL own Ts A D g z) : ∀ w ∈ Ts, w.before args s = true := F.2.2.2.2.1
theorem Fx.K (F : Fx l p s m args meth c cc nL own Ts A D g z) : va_K D vwCl (tysG g) s := F.2.2.2.2.2.1
theorem Fx.al (F : Fx l p s m args meth c cc nL own Ts A D g z) : ∀ q, s.heap.size ≤ q → A q := F.2.2.2.2.2.2.1
theorem Fx.S (F : Fx l p s m args meth c cc nL own Ts A D g z) : St z A s s.heap := F.2.2.2.2.2.2.2.1
theorem Fx.lk (F : Fx l p s m args meth c cc nL own Ts A D g z) : meth.locks = false := F.2.2.2.2.2.2.2.2.1
theorem Fx.fl (F : Fx l p s m args meth c cc nL own Ts A D g z) : l.flags = flags0 := F.2.2.2.2.2.2.2.2.2
end FX
/-- the walk: from any heap that holds the world ws, with the locals lv and the stack st, at pc -/
def J (p : Program) (l : Launch) (e : Env) (R : Room) (s : State) (m : MethodId) (args : Array Value) (below : List Frame) (meth : Method) (c : Code) (A : Nat → Prop) (D : va_G) (nL : Nat) (Q : State → Prop) (cells slots : Nat) (ws : va_W) (lv : List (Nat × Value)) (st : List Value) (pc : Nat) : Prop :=
  ∀ (H : Heap) (locs : List Loc) (ls : Array Slot), va_P D vwCl ws H → va_D A ws → va_S A s.heap H locs → lv_has ls nL lv → W p l e R s m args below meth c H locs cells slots Q (F0 m pc ls st)
section ROWS
variable {l : Launch} {p : Program} {e : Env} {R : Room} {s : State} {m : MethodId} {args : Array Value} {below : List Frame} {meth : Method} {c : Code} {cc : ByteArray} {nL : Nat} {own : String} {Ts : List Cond} {A : Nat → Prop} {D : va_G} {g : GT} {z : ZT} {Q : State → Prop} {cells slots : Nat} {ws : va_W} {lv : List (Nat × Value)} {st : List Value} {pc : Nat}
theorem J.loc {lv' : List (Nat × Value)} (ks : List Nat) (h : lv_pick lv ks = lv') (k : J p l e R s m args below meth c A D nL Q cells slots ws lv' st pc) : J p l e R s m args below meth c A D nL Q cells slots ws lv st pc := fun H locs ls hP hD hS hl => k H locs ls hP hD hS (lv_sub hl ks h)
theorem J.wid {k n : Nat} (h1 : cells ≤ k) (h2 : slots ≤ n) (kk : J p l e R s m args below meth c A D nL Q k n ws lv st pc) : J p l e R s m args below meth c A D nL Q cells slots ws lv st pc := fun H locs ls hP hD hS hl => W.widen h1 h2 (kk H locs ls hP hD hS hl)
/-- the world's cells in another order, or fewer -/
theorem J.perm {ws' : va_W} (is : List Nat) (h : is.map (fun i => ws[i]?) = ws'.map some) (hn : va_nd is = true) (kk : J p l e R s m args below meth c A D nL Q cells slots ws' lv st pc) : J p l e R s m args below meth c A D nL Q cells slots ws lv st pc := fun H locs ls hP hD hS hl => kk H locs ls (by
  intro k q hk
  have h1 : (is.map (fun i => ws[i]?))[k]? = some (some q) := by rw [h, List.getElem?_map, hk]; rfl
  rw [List.getElem?_map] at h1
  cases hi : is[k]? with
  | none => rw [hi] at h1; cases h1
  | some i => rw [hi] at h1; exact hP i q (Option.some.inj h1)) (hD.sub is hn h) hS hl
theorem J.top {v v' : Int32} (h : v = v') (k : J p l e R s m args below meth c A D nL Q cells slots ws lv (.int v' :: st) pc) : J p l e R s m args below meth c A D nL Q cells slots ws lv (.int v :: st) pc := by rw [h]; exact k
theorem j_iconst (F : Fx l p s m args meth c cc nL own Ts A D g z) {n : Int} (d : decode cc pc = .ok (.iconst n, 1)) (k : J p l e R s m args below meth c A D nL Q cells slots ws lv (.int (iI n) :: st) (pc + 1)) : J p l e R s m args below meth c A D nL Q cells slots ws lv st pc := fun H locs ls hP hD hS hl => lv_iconst F.x F.b d rfl (k H locs ls hP hD hS hl)
theorem j_bipush (F : Fx l p s m args meth c cc nL own Ts A D g z) {n : Int} (d : decode cc pc = .ok (.bipush n, 2)) (h : (Int8.ofInt n).toInt32 = iI n) (k : J p l e R s m args below meth c A D nL Q cells slots ws lv (.int (iI n) :: st) (pc + 2)) : J p l e R s m args below meth c A D nL Q cells slots ws lv st pc := fun H locs ls hP hD hS hl => lv_bipush F.x F.b d h (k H locs ls hP hD hS hl)
theorem j_sipush (F : Fx l p s m args meth c cc nL own Ts A D g z) {n : Int} (d : decode cc pc = .ok (.sipush n, 3)) (h : (Int16.ofInt n).toInt32 = iI n) (k : J p l e R s m args below meth c A D nL Q cells slots ws lv (.int (iI n) :: st) (pc + 3)) : J p l e R s m args below meth c A D nL Q cells slots ws lv st pc := fun H locs ls hP hD hS hl => lv_sipush F.x F.b d h (k H locs ls hP hD hS hl)
theorem j_iload_n (F : Fx l p s m args meth c cc nL own Ts A D g z) {k : Fin 4} {i : Nat} {v : Int32} (d : decode cc pc = .ok (.iload_n k, 1)) (hi : (k : Nat) = i) (q : Nat) (h : lv[q]? = some (i, .int v)) (kk : J p l e R s m args below meth c A D nL Q cells slots ws lv (.int v :: st) (pc + 1)) : J p l e R s m args below meth c A D nL Q cells slots ws lv st pc := fun H locs ls hP hD hS hl => lv_iload_n F.x F.b d hi (lv_at hl q h) (kk H locs ls hP hD hS hl)
theorem j_iload (F : Fx l p s m args meth c cc nL own Ts A D g z) {i : Nat} {v : Int32} (d : decode cc pc = .ok (.iload i, 2)) (q : Nat) (h : lv[q]? = some (i, .int v)) (kk : J p l e R s m args below meth c A D nL Q cells slots ws lv (.int v :: st) (pc + 2)) : J p l e R s m args below meth c A D nL Q cells slots ws lv st pc := fun H locs ls hP hD hS hl => lv_iload F.x F.b d (lv_at hl q h) (kk H locs ls hP hD hS hl)
theorem j_lload_n (F : Fx l p s m args meth c cc nL own Ts A D g z) {k : Fin 4} {i : Nat} {v : Int64} (d : decode cc pc = .ok (.lload_n k, 1)) (hi : (k : Nat) = i) (q : Nat) (h : lv[q]? = some (i, .long v)) (kk : J p l e R s m args below meth c A D nL Q cells slots ws lv (.long v :: st) (pc + 1)) : J p l e R s m args below meth c A D nL Q cells slots ws lv st pc := fun H locs ls hP hD hS hl => lv_lload_n F.x F.b d hi (lv_at hl q h) (kk H locs ls hP hD hS hl)
theorem j_aload_n (F : Fx l p s m args meth c cc nL own Ts A D g z) {k : Fin 4} {i : Nat} {v : Nat} (d : decode cc pc = .ok (.aload_n k, 1)) (hi : (k : Nat) = i) (q : Nat) (h : lv[q]? = some (i, .ref v)) (kk : J p l e R s m args below meth c A D nL Q cells slots ws lv (.ref v :: st) (pc + 1)) : J p l e R s m args below meth c A D nL Q cells slots ws lv st pc := fun H locs ls hP hD hS hl => lv_aload_n F.x F.b d hi (lv_at hl q h) (kk H locs ls hP hD hS hl)
theorem j_aload (F : Fx l p s m args meth c cc nL own Ts A D g z) {i : Nat} {v : Nat} (d : decode cc pc = .ok (.aload i, 2)) (q : Nat) (h : lv[q]? = some (i, .ref v)) (kk : J p l e R s m args below meth c A D nL Q cells slots ws lv (.ref v :: st) (pc + 2)) : J p l e R s m args below meth c A D nL Q cells slots ws lv st pc := fun H locs ls hP hD hS hl => lv_aload F.x F.b d (lv_at hl q h) (kk H locs ls hP hD hS hl)
theorem j_istore_n (F : Fx l p s m args meth c cc nL own Ts A D g z) {k : Fin 4} {i : Nat} {v : Int32} {lv' : List (Nat × Value)} (d : decode cc pc = .ok (.istore_n k, 1)) (hi : (k : Nat) = i) (hn : i < nL) (h : (i, Value.int v) :: lv.filter (fun q => !(q.1 == i) && !(q.1 + 1 == i && q.2.category == 2)) = lv') (kk : J p l e R s m args below meth c A D nL Q cells slots ws lv' st (pc + 1)) : J p l e R s m args below meth c A D nL Q cells slots ws lv (.int v :: st) pc := fun H locs ls hP hD hS hl => lv_istore_n F.x F.b d hi hl hn h (fun ls' hl' => kk H locs ls' hP hD hS hl')
theorem j_istore (F : Fx l p s m args meth c cc nL own Ts A D g z) {i : Nat} {v : Int32} {lv' : List (Nat × Value)} (d : decode cc pc = .ok (.istore i, 2)) (hn : i < nL) (h : (i, Value.int v) :: lv.filter (fun q => !(q.1 == i) && !(q.1 + 1 == i && q.2.category == 2)) = lv') (kk : J p l e R s m args below meth c A D nL Q cells slots ws lv' st (pc + 2)) : J p l e R s m args below meth c A D nL Q cells slots ws lv (.int v :: st) pc := fun H locs ls hP hD hS hl => lv_istore F.x F.b d hl hn h (fun ls' hl' => kk H locs ls' hP hD hS hl')
theorem j_lstore_n (F : Fx l p s m args meth c cc nL own Ts A D g z) {k : Fin 4} {i : Nat} {v : Int64} {lv' : List (Nat × Value)} (d : decode cc pc = .ok (.lstore_n k, 1)) (hi : (k : Nat) = i) (hn : i + 1 < nL) (h : (i, Value.long v) :: lv.filter (fun q => !(q.1 == i) && (!(q.1 == i + 1) && !(q.1 + 1 == i && q.2.category == 2))) = lv') (kk : J p l e R s m args below meth c A D nL Q cells slots ws lv' st (pc + 1)) : J p l e R s m args below meth c A D nL Q cells slots ws lv (.long v :: st) pc := fun H locs ls hP hD hS hl => lv_lstore_n F.x F.b d hi hl hn h (fun ls' hl' => kk H locs ls' hP hD hS hl')
theorem j_astore_n (F : Fx l p s m args meth c cc nL own Ts A D g z) {k : Fin 4} {i : Nat} {v : Nat} {lv' : List (Nat × Value)} (d : decode cc pc = .ok (.astore_n k, 1)) (hi : (k : Nat) = i) (hn : i < nL) (h : (i, Value.ref v) :: lv.filter (fun q => !(q.1 == i) && !(q.1 + 1 == i && q.2.category == 2)) = lv') (kk : J p l e R s m args below meth c A D nL Q cells slots ws lv' st (pc + 1)) : J p l e R s m args below meth c A D nL Q cells slots ws lv (.ref v :: st) pc := fun H locs ls hP hD hS hl => lv_astore_n F.x F.b d hi hl hn h (fun ls' hl' => kk H locs ls' hP hD hS hl')
theorem j_iinc (F : Fx l p s m args meth c cc nL own Ts A D g z) {i : Nat} {n a : Int} {lv' : List (Nat × Value)} (d : decode cc pc = .ok (.iinc i n, 3)) (q : Nat) (h : lv[q]? = some (i, .int (iI a))) (hn : i < nL) (h' : (i, Value.int (iI (a + n))) :: lv.filter (fun q => !(q.1 == i) && !(q.1 + 1 == i && q.2.category == 2)) = lv') (kk : J p l e R s m args below meth c A D nL Q cells slots ws lv' st (pc + 3)) : J p l e R s m args below meth c A D nL Q cells slots ws lv st pc := fun H locs ls hP hD hS hl => lv_iinc F.x F.b d hl h (iI_add a n) hn h' (fun ls' hl' => kk H locs ls' hP hD hS hl')
theorem j_iadd (F : Fx l p s m args meth c cc nL own Ts A D g z) {a b : Int} (d : decode cc pc = .ok (.iadd, 1)) (k : J p l e R s m args below meth c A D nL Q cells slots ws lv (.int (iI (a + b)) :: st) (pc + 1)) : J p l e R s m args below meth c A D nL Q cells slots ws lv (.int (iI b) :: .int (iI a) :: st) pc := fun H locs ls hP hD hS hl => lv_iadd F.x F.b d (by rw [iI_add]; exact k H locs ls hP hD hS hl)
theorem j_isub (F : Fx l p s m args meth c cc nL own Ts A D g z) {a b : Int} (d : decode cc pc = .ok (.isub, 1)) (k : J p l e R s m args below meth c A D nL Q cells slots ws lv (.int (iI (a - b)) :: st) (pc + 1)) : J p l e R s m args below meth c A D nL Q cells slots ws lv (.int (iI b) :: .int (iI a) :: st) pc := fun H locs ls hP hD hS hl => lv_isub F.x F.b d (by rw [iI_sub]; exact k H locs ls hP hD hS hl)
theorem j_imul (F : Fx l p s m args meth c cc nL own Ts A D g z) {a b : Int} (d : decode cc pc = .ok (.imul, 1)) (k : J p l e R s m args below meth c A D nL Q cells slots ws lv (.int (iI (a * b)) :: st) (pc + 1)) : J p l e R s m args below meth c A D nL Q cells slots ws lv (.int (iI b) :: .int (iI a) :: st) pc := fun H locs ls hP hD hS hl => lv_imul F.x F.b d (by rw [iI_mul]; exact k H locs ls hP hD hS hl)
theorem j_irem (F : Fx l p s m args meth c cc nL own Ts A D g z) {a b : Int} (d : decode cc pc = .ok (.irem, 1)) (ha : 0 ≤ a ∧ a < 2147483648) (hd : 0 < b ∧ b < 2147483648) (k : J p l e R s m args below meth c A D nL Q cells slots ws lv (.int (iI (a % b)) :: st) (pc + 1)) : J p l e R s m args below meth c A D nL Q cells slots ws lv (.int (iI b) :: .int (iI a) :: st) pc := fun H locs ls hP hD hS hl => lv_irem F.x F.b d (by rw [iI_0, iI_eq ⟨by omega, by omega⟩ ⟨by omega, by omega⟩]; omega) (by rw [iI_rem ha hd]; exact k H locs ls hP hD hS hl)
theorem j_dup (F : Fx l p s m args meth c cc nL own Ts A D g z) {v : Value} (d : decode cc pc = .ok (.dup, 1)) (hv : v.category = 1) (k : J p l e R s m args below meth c A D nL Q cells slots ws lv (v :: v :: st) (pc + 1)) : J p l e R s m args below meth c A D nL Q cells slots ws lv (v :: st) pc := fun H locs ls hP hD hS hl => lv_dup F.x F.b d hv (k H locs ls hP hD hS hl)
theorem j_dup2 (F : Fx l p s m args meth c cc nL own Ts A D g z) {v w : Value} (d : decode cc pc = .ok (.dup2, 1)) (hv : v.category = 1) (hw : w.category = 1) (k : J p l e R s m args below meth c A D nL Q cells slots ws lv (v :: w :: v :: w :: st) (pc + 1)) : J p l e R s m args below meth c A D nL Q cells slots ws lv (v :: w :: st) pc := fun H locs ls hP hD hS hl => lv_dup2_11 F.x F.b d hv hw (k H locs ls hP hD hS hl)
theorem j_pop (F : Fx l p s m args meth c cc nL own Ts A D g z) {v : Value} (d : decode cc pc = .ok (.pop, 1)) (hv : v.category = 1) (k : J p l e R s m args below meth c A D nL Q cells slots ws lv st (pc + 1)) : J p l e R s m args below meth c A D nL Q cells slots ws lv (v :: st) pc := fun H locs ls hP hD hS hl => lv_pop F.x F.b d hv (k H locs ls hP hD hS hl)
theorem j_goto (F : Fx l p s m args meth c cc nL own Ts A D g z) {off : Int} {tgt : Nat} (d : decode cc pc = .ok (.goto off, 3)) (ht : (pc : Int) + off = (tgt : Int)) (k : J p l e R s m args below meth c A D nL Q cells slots ws lv st tgt) : J p l e R s m args below meth c A D nL Q cells slots ws lv st pc := fun H locs ls hP hD hS hl => lv_goto F.x F.b d ht (k H locs ls hP hD hS hl)
theorem j_icmp_lt (F : Fx l p s m args meth c cc nL own Ts A D g z) {a b : Int} {off : Int} {tgt : Nat} (d : decode cc pc = .ok (.if_icmp .lt off, 3)) (ht : (pc : Int) + off = (tgt : Int)) (r : rg a ∧ rg b) (k1 : a < b → J p l e R s m args below meth c A D nL Q cells slots ws lv st tgt) (k2 : ¬ a < b → J p l e R s m args below meth c A D nL Q cells slots ws lv st (pc + 3)) : J p l e R s m args below meth c A D nL Q cells slots ws lv (.int (iI b) :: .int (iI a) :: st) pc := fun H locs ls hP hD hS hl => lv_icmp_lt F.x F.b d ht (fun h => k1 ((iI_lt r.1 r.2).mp h) H locs ls hP hD hS hl) (fun h => k2 (fun h2 => h ((iI_lt r.1 r.2).mpr h2)) H locs ls hP hD hS hl)
theorem j_icmp_ge (F : Fx l p s m args meth c cc nL own Ts A D g z) {a b : Int} {off : Int} {tgt : Nat} (d : decode cc pc = .ok (.if_icmp .ge off, 3)) (ht : (pc : Int) + off = (tgt : Int)) (r : rg a ∧ rg b) (k1 : b ≤ a → J p l e R s m args below meth c A D nL Q cells slots ws lv st tgt) (k2 : ¬ b ≤ a → J p l e R s m args below meth c A D nL Q cells slots ws lv st (pc + 3)) : J p l e R s m args below meth c A D nL Q cells slots ws lv (.int (iI b) :: .int (iI a) :: st) pc := fun H locs ls hP hD hS hl => lv_icmp_ge F.x F.b d ht (fun h => k1 ((iI_le r.2 r.1).mp h) H locs ls hP hD hS hl) (fun h => k2 (fun h2 => h ((iI_le r.2 r.1).mpr h2)) H locs ls hP hD hS hl)
theorem j_icmp_gt (F : Fx l p s m args meth c cc nL own Ts A D g z) {a b : Int} {off : Int} {tgt : Nat} (d : decode cc pc = .ok (.if_icmp .gt off, 3)) (ht : (pc : Int) + off = (tgt : Int)) (r : rg a ∧ rg b) (k1 : b < a → J p l e R s m args below meth c A D nL Q cells slots ws lv st tgt) (k2 : ¬ b < a → J p l e R s m args below meth c A D nL Q cells slots ws lv st (pc + 3)) : J p l e R s m args below meth c A D nL Q cells slots ws lv (.int (iI b) :: .int (iI a) :: st) pc := fun H locs ls hP hD hS hl => lv_icmp_gt F.x F.b d ht (fun h => k1 ((iI_lt r.2 r.1).mp h) H locs ls hP hD hS hl) (fun h => k2 (fun h2 => h ((iI_lt r.2 r.1).mpr h2)) H locs ls hP hD hS hl)
theorem j_icmp_le (F : Fx l p s m args meth c cc nL own Ts A D g z) {a b : Int} {off : Int} {tgt : Nat} (d : decode cc pc = .ok (.if_icmp .le off, 3)) (ht : (pc : Int) + off = (tgt : Int)) (r : rg a ∧ rg b) (k1 : a ≤ b → J p l e R s m args below meth c A D nL Q cells slots ws lv st tgt) (k2 : ¬ a ≤ b → J p l e R s m args below meth c A D nL Q cells slots ws lv st (pc + 3)) : J p l e R s m args below meth c A D nL Q cells slots ws lv (.int (iI b) :: .int (iI a) :: st) pc := fun H locs ls hP hD hS hl => lv_icmp_le F.x F.b d ht (fun h => k1 ((iI_le r.1 r.2).mp h) H locs ls hP hD hS hl) (fun h => k2 (fun h2 => h ((iI_le r.1 r.2).mpr h2)) H locs ls hP hD hS hl)
theorem j_icmp_eq (F : Fx l p s m args meth c cc nL own Ts A D g z) {a b : Int} {off : Int} {tgt : Nat} (d : decode cc pc = .ok (.if_icmp .eq off, 3)) (ht : (pc : Int) + off = (tgt : Int)) (r : rg a ∧ rg b) (k1 : a = b → J p l e R s m args below meth c A D nL Q cells slots ws lv st tgt) (k2 : ¬ a = b → J p l e R s m args below meth c A D nL Q cells slots ws lv st (pc + 3)) : J p l e R s m args below meth c A D nL Q cells slots ws lv (.int (iI b) :: .int (iI a) :: st) pc := fun H locs ls hP hD hS hl => lv_icmp_eq F.x F.b d ht (fun h => k1 ((iI_eq r.1 r.2).mp h) H locs ls hP hD hS hl) (fun h => k2 (fun h2 => h ((iI_eq r.1 r.2).mpr h2)) H locs ls hP hD hS hl)
theorem j_icmp_ne (F : Fx l p s m args meth c cc nL own Ts A D g z) {a b : Int} {off : Int} {tgt : Nat} (d : decode cc pc = .ok (.if_icmp .ne off, 3)) (ht : (pc : Int) + off = (tgt : Int)) (r : rg a ∧ rg b) (k1 : ¬ a = b → J p l e R s m args below meth c A D nL Q cells slots ws lv st tgt) (k2 : a = b → J p l e R s m args below meth c A D nL Q cells slots ws lv st (pc + 3)) : J p l e R s m args below meth c A D nL Q cells slots ws lv (.int (iI b) :: .int (iI a) :: st) pc := fun H locs ls hP hD hS hl => lv_icmp_ne F.x F.b d ht (fun h => k1 (fun h2 => h ((iI_eq r.1 r.2).mpr h2)) H locs ls hP hD hS hl) (fun h => k2 ((iI_eq r.1 r.2).mp h) H locs ls hP hD hS hl)
end ROWS
end BASE
