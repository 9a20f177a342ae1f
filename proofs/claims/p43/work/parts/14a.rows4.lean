/-! ===== ROWS 4: the two String constants ===== -/
section ROWS4
variable {l : Launch} {p : Program} {e : Env} {R : Room} {s : State} {m : MethodId} {args : Array Value} {below : List Frame} {meth : Method} {c : Code} {cc : ByteArray} {nL : Nat} {own : String} {Ts : List Cond} {A : Nat → Prop} {D : va_G} {g : GT} {z : ZT} {Q : State → Prop} {cells slots : Nat} {ws : va_W} {lv : List (Nat × Value)} {st : List Value} {pc : Nat}
theorem iI_i0 : (Value.int 0) = .int (iI 0) := congrArg Value.int iI_0
theorem iI_i1 : (Value.int 1) = .int (iI 1) := by decide
theorem j_i2b (F : Fx l p s m args meth c cc nL own Ts A D g z) {x : Int} (h : -128 ≤ x ∧ x < 128) (d : decode cc pc = .ok (.i2b, 1)) (kk : J p l e R s m args below meth c A D nL Q cells slots ws lv (.int (iI x) :: st) (pc + 1)) : J p l e R s m args below meth c A D nL Q cells slots ws lv (.int (iI x) :: st) pc := fun H locs ls hP hD hS hl => lv_i2b F.x F.b d (lg_i2b_small (by rw [iI_T ⟨by omega, by omega⟩]; exact h.1) (by rw [iI_T ⟨by omega, by omega⟩]; exact h.2)) (kk H locs ls hP hD hS hl)
theorem i2c_s {x : Int} (h : 0 ≤ x ∧ x < 65536) : ((iI x).toUInt32 % 65536).toInt32 = iI x := lg_i2c_word (by rw [iI_T ⟨by omega, by omega⟩]; exact h.1) (by rw [iI_T ⟨by omega, by omega⟩]; exact h.2)
theorem and255 : ∀ x : Nat, x < 128 → iI (x : Int) &&& iI 255 = iI (x : Int) := by decide +kernel
theorem and255i {x : Int} (h : 0 ≤ x ∧ x < 128) : iI x &&& iI 255 = iI x := by
  obtain ⟨k, rfl⟩ := Int.eq_ofNat_of_zero_le h.1
  exact and255 k (by omega)
theorem shr0_3 : iI 3 >>> ((0 : Int32) &&& 31) = iI 3 := by decide +kernel
variable {y : MethodName} {wsy : List Cond} {fr lo n mc ms : Nat} {S : Type}
end ROWS4
