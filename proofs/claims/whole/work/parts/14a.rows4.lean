/-! ===== ROWS 4: the two String constants ===== -/
section ROWS4
variable {l : Launch} {p : Program} {e : Env} {R : Room} {s : State} {m : MethodId} {args : Array Value} {below : List Frame} {meth : Method} {c : Code} {cc : ByteArray} {nL : Nat} {own : String} {Ts : List Cond} {A : Nat → Prop} {D : va_G} {g : GT} {z : ZT} {Q : State → Prop} {cells slots : Nat} {ws : va_W} {lv : List (Nat × Value)} {st : List Value} {pc : Nat}
/-- the bytes of the two, as integers -/
def sB (i k : Nat) : Int := (([[116, 115, 109], [45, 47, 43]] : List (List Int)).getD i []).getD k 0
theorem sB_eq : ∀ i, i < 2 → ∀ k, k < 3 → (bytS.getD i []).getD k 0 = iI (sB i k) := by decide +kernel
theorem sB_r : ∀ i, i < 2 → ∀ k, k < 3 → 0 ≤ sB i k ∧ sB i k < 128 := by decide +kernel
theorem lenS_3 : ∀ i, i < 2 → lenS.getD i 0 = 3 := by decide
theorem j_sval (F : Fx l p s m args meth c cc nL own Ts A D g z) {i index : Nat} (hi : i < 2) (h1 : Cond.fieldLink own index "java/lang/String" "value" "[B" ∈ Ts) (d : decode cc pc = .ok (.getfield index, 3)) (kk : J p l e R s m args below meth c A D nL Q cells slots ws lv (.ref (z.2.2 i) :: st) (pc + 3)) : J p l e R s m args below meth c A D nL Q cells slots ws lv (.ref (z.2.1 i) :: st) pc := fun H locs ls hP hD hS hl => vk_getf F.x F.b (F.S.2.2.2.1.1 i hi).2.2.1 hS F.ow (F.ts _ h1) (fun _ h => h) d (kk H locs ls hP hD hS hl)
theorem iI_i0 : (Value.int 0) = .int (iI 0) := congrArg Value.int iI_0
theorem iI_i1 : (Value.int 1) = .int (iI 1) := by decide
theorem j_scod (F : Fx l p s m args meth c cc nL own Ts A D g z) {i index : Nat} (hi : i < 2) (h1 : Cond.fieldLink own index "java/lang/String" "coder" "B" ∈ Ts) (d : decode cc pc = .ok (.getfield index, 3)) (kk : J p l e R s m args below meth c A D nL Q cells slots ws lv (.int (iI 0) :: st) (pc + 3)) : J p l e R s m args below meth c A D nL Q cells slots ws lv (.ref (z.2.1 i) :: st) pc := fun H locs ls hP hD hS hl => vk_getf F.x F.b (F.S.2.2.2.1.1 i hi).2.1 hS F.ow (F.ts _ h1) (fun _ h => h) d (by rw [iI_i0]; exact kk H locs ls hP hD hS hl)
theorem j_compact (F : Fx l p s m args meth c cc nL own Ts A D g z) {index : Nat} (h1 : Cond.fieldLink own index "java/lang/String" "COMPACT_STRINGS" "Z" ∈ Ts) (d : decode cc pc = .ok (.getstatic index, 3)) (kk : J p l e R s m args below meth c A D nL Q cells slots ws lv (.int (iI 1) :: st) (pc + 3)) : J p l e R s m args below meth c A D nL Q cells slots ws lv st pc := fun H locs ls hP hD hS hl => va_gets F.x F.b F.S.2.2.1 hS F.ow (F.ts _ h1) (fun _ h => h) d (by rw [iI_i1]; exact kk H locs ls hP hD hS hl)
theorem j_siob (F : Fx l p s m args meth c cc nL own Ts A D g z) {index : Nat} (h1 : Cond.fieldLink own index "jdk/internal/util/Preconditions" "SIOOBE_FORMATTER" "Ljava/util/function/BiFunction;" ∈ Ts) (d : decode cc pc = .ok (.getstatic index, 3)) (kk : ∀ q : Option Nat, J p l e R s m args below meth c A D nL Q cells slots ws lv (va_rf q :: st) (pc + 3)) : J p l e R s m args below meth c A D nL Q cells slots ws lv st pc := by
  intro H locs ls hP hD hS hl
  rcases F.S.2.2.2.2.2.2.2.2.2.2.2.2.1 with h | ⟨t, h⟩
  · exact va_gets F.x F.b h hS F.ow (F.ts _ h1) (fun _ h => h) d (kk none H locs ls hP hD hS hl)
  · exact va_gets F.x F.b h hS F.ow (F.ts _ h1) (fun _ h => h) d (kk (some t) H locs ls hP hD hS hl)
theorem j_slen (F : Fx l p s m args meth c cc nL own Ts A D g z) {i : Nat} (hi : i < 2) (d : decode cc pc = .ok (.arraylength, 1)) (kk : J p l e R s m args below meth c A D nL Q cells slots ws lv (.int (iI 3) :: st) (pc + 1)) : J p l e R s m args below meth c A D nL Q cells slots ws lv (.ref (z.2.2 i) :: st) pc := fun H locs ls hP hD hS hl => va_tlen F.x F.b (F.S.2.2.2.1.1 i hi).2.2.2 hS (v := iI 3) (by rw [lenS_3 i hi]; decide) d (kk H locs ls hP hD hS hl)
theorem j_sbald (F : Fx l p s m args meth c cc nL own Ts A D g z) {i k : Nat} {x : Int} (hi : i < 2) (hx : x = (k : Int)) (hk : k < 3) (d : decode cc pc = .ok (.baload, 1)) (kk : J p l e R s m args below meth c A D nL Q cells slots ws lv (.int (iI (sB i k)) :: st) (pc + 1)) : J p l e R s m args below meth c A D nL Q cells slots ws lv (.int (iI x) :: .ref (z.2.2 i) :: st) pc := fun H locs ls hP hD hS hl => va_tb F.x F.b (F.S.2.2.2.1.1 i hi).2.2.2 hS (iI_in hx (by rw [lenS_3 i hi]; exact hk) (by rw [lenS_3 i hi]; omega)) (by rw [iI_cl hx (by omega), sB_eq i hi k hk]) d (kk H locs ls hP hD hS hl)
theorem j_i2b (F : Fx l p s m args meth c cc nL own Ts A D g z) {x : Int} (h : -128 ≤ x ∧ x < 128) (d : decode cc pc = .ok (.i2b, 1)) (kk : J p l e R s m args below meth c A D nL Q cells slots ws lv (.int (iI x) :: st) (pc + 1)) : J p l e R s m args below meth c A D nL Q cells slots ws lv (.int (iI x) :: st) pc := fun H locs ls hP hD hS hl => lv_i2b F.x F.b d (lg_i2b_small (by rw [iI_T ⟨by omega, by omega⟩]; exact h.1) (by rw [iI_T ⟨by omega, by omega⟩]; exact h.2)) (kk H locs ls hP hD hS hl)
theorem i2c_s {x : Int} (h : 0 ≤ x ∧ x < 65536) : ((iI x).toUInt32 % 65536).toInt32 = iI x := lg_i2c_word (by rw [iI_T ⟨by omega, by omega⟩]; exact h.1) (by rw [iI_T ⟨by omega, by omega⟩]; exact h.2)
theorem and255 : ∀ x : Nat, x < 128 → iI (x : Int) &&& iI 255 = iI (x : Int) := by decide +kernel
theorem and255i {x : Int} (h : 0 ≤ x ∧ x < 128) : iI x &&& iI 255 = iI x := by
  obtain ⟨k, rfl⟩ := Int.eq_ofNat_of_zero_le h.1
  exact and255 k (by omega)
theorem shr0_3 : iI 3 >>> ((0 : Int32) &&& 31) = iI 3 := by decide +kernel
variable {y : MethodName} {wsy : List Cond} {fr lo n mc ms : Nat} {S : Type}
theorem j_callK_I (F : Fx l p s m args meth c cc nL own Ts A D g z) {i : Nat} (hi : i < 2) {As : List Value} {post : Int32 → S → Prop} (hM : CI l y wsy fr lo n D g z (.ref (z.2.1 i) :: As) [] post (fun _ => []) mc ms) {idx : Nat} (hG : GoodIn Ts (wsV own idx "java/lang/String" y wsy)) (hyC : y.cls = "java/lang/String") (hn : As.length = n) (hlo : lo ≤ R.locals) (hfr : fr ≤ R.frames) (hst : (st.map fun v => v.category).sum ≤ 8) (hf : cells + mc ≤ R.cells ∧ slots + ms ≤ R.slots) (d : decode cc pc = .ok (.invokevirtual idx, 3)) (kk : ∀ (r : Int32) (u : S), post r u → J p l e R s m args below meth c A D nL Q (cells + mc) (slots + ms) ws lv (.int r :: st) (pc + 3)) : J p l e R s m args below meth c A D nL Q cells slots ws lv (As.reverse ++ .ref (z.2.1 i) :: st) pc := by
  obtain ⟨rm, ⟨hrc, hrs, hfr0, ⟨bytes, maxL, ret, ws9, hw, hlo0, hvoid⟩, hy1, hy2, hy3⟩, hM⟩ := hM
  intro H locs ls hP hD hS hl
  have e0 : ws = [] ++ ws := rfl
  rw [e0] at hP hD
  obtain ⟨hF, hpre⟩ := pre_call F hP hD hS _ (rng_C [] ws) (nd_range _ _) (.ref (z.2.1 i) :: As)
  refine va_calli (va_runV (As := As) (rest := st) F.fix (hM H.size) (cwV n F.ts hG hw hrc hrs ⟨hyC, hy1, hy2, hy3⟩ ⟨Nat.le_trans hfr0 hfr, Nat.le_trans hlo0 hlo⟩) ⟨PreB_blind, vk_recv F.S.2.2.2.1 hi hS, hpre⟩ rfl hn hl.1 rfl (lv_room hst) d hf) hS (fun q _ h => hF q h) hF (fun r u t H1 locs1 ht hvm hp hB hz1 hk1 hS1 => ?_)
  obtain ⟨hP1, hD1⟩ := pos_x hP hD ht hk1 hF hB
  exact kk r u hp H1 locs1 ls hP1 hD1 hS1 hl
end ROWS4
