/-! ===== GROUPS: the objects with their rows; small words for the walks ===== -/
section GRP
def stC (g : GT) (a b d : Nat) (cn gr sp mg nm : Int) (f h : Nat → Int) : va_W := [(a, .inr (4, [.ref b, .int (iI cn), .int (iI gr), .int (iI sp), .int (iI mg), .int (iI nm), .ref d])), (b, iR g 12 f), (d, iR g 3 h)]
def mlC (g : GT) (a q1 q2 q3 q4 : Nat) (cnt : Int) (k h m b : Nat → Int) : va_W := [(a, .inr (1, [.ref q1, .ref q2, .ref q3, .ref q4, .int (iI cnt)])), (q1, iR g 84 k), (q2, iR g 84 h), (q3, iR g 84 m), (q4, iR g 84 b)]
def soC (g : GT) (a q1 q2 q3 q4 : Nat) (sv : Int) (nu lo sh wt : Nat → Int) : va_W := [(a, .inr (2, [.ref q1, .ref q2, .ref q3, .ref q4, .int (iI sv)])), (q1, iR g 1024 nu), (q2, iR g 1024 lo), (q3, iR g 1024 sh), (q4, zR g 1024 wt)]
def txC (g : GT) (a b : Nat) (ln at9 kd hp am : Int) (f : Nat → Int) : va_W := [(a, .inr (5, [.ref b, .int (iI ln), .int (iI at9), .int (iI kd), .int (iI hp), .int (iI am)])), (b, cR g 60 f)]
def hoC (g : GT) (a b : Nat) (nx cnt : Int) (f : Nat → Option Nat) : va_W := [(a, .inr (0, [.ref b, .int (iI nx), .int (iI cnt)])), (b, stR g 6 f)]
def svC (g : GT) (a b p li : Nat) (f : Nat → Option Nat) : va_W := [(a, .inr (3, [.ref b, .ref p, .ref li])), (b, soR g 20 f)]
def gmC (a q1 q2 q3 q4 q5 : Nat) : va_W := [(a, .inr (6, [.ref q1, .ref q2, .ref q3, .ref q4, .ref q5]))]
abbrev NF : Type := Nat → Int
abbrev CT : Type := NF × NF × Int × NF × Int
abbrev TT : Type := NF × NF × Int × NF × NF × NF × NF × Int
abbrev LT : Type := NF × Int × NF × NF × NF × Int × NF × Int
abbrev PT : Type := Int × Int × Int × Int × Int
/-- the model: ad k is the cell of its field k, ad 0 the object -/
def moC (g : GT) (ad : Nat → Nat) (th : Int) (C : CT) (T : TT) (L : LT) (P : PT) : va_W :=
  [(ad 0, .inr (7, [.int (iI th), .ref (ad 1), .ref (ad 2), .int (iI C.2.2.1), .ref (ad 4), .int (iI C.2.2.2.2), .ref (ad 6), .ref (ad 7), .int (iI T.2.2.1), .ref (ad 9), .ref (ad 10), .ref (ad 11), .ref (ad 12), .int (iI T.2.2.2.2.2.2.2), .ref (ad 14), .int (iI L.2.1), .ref (ad 16), .ref (ad 17), .ref (ad 18), .int (iI L.2.2.2.2.2.1), .ref (ad 20), .int (iI L.2.2.2.2.2.2.2), .int (iI P.1), .int (iI P.2.1), .int (iI P.2.2.1), .int (iI P.2.2.2.1), .int (iI P.2.2.2.2)])),
   (ad 1, iR g 20 C.1), (ad 2, iR g 120 C.2.1), (ad 4, iR g 60 C.2.2.2.1), (ad 6, iR g 3264 T.1), (ad 7, iR g 14 T.2.1), (ad 9, iR g 272 T.2.2.2.1), (ad 10, iR g 272 T.2.2.2.2.1), (ad 11, iR g 272 T.2.2.2.2.2.1), (ad 12, iR g 272 T.2.2.2.2.2.2.1), (ad 14, iR g 12 L.1), (ad 16, iR g 100 L.2.2.1), (ad 17, iR g 100 L.2.2.2.1), (ad 18, iR g 100 L.2.2.2.2.1), (ad 20, iR g 13 L.2.2.2.2.2.2.1)]
/-- a truth as an int -/
def b2 (p : Prop) [Decidable p] : Int := if p then 1 else 0
theorem b2_01 {p : Prop} [Decidable p] : b2 p = 0 ∨ b2 p = 1 := by unfold b2; split <;> omega
theorem b2_t {p : Prop} [Decidable p] (h : p) : b2 p = 1 := by unfold b2; rw [if_pos h]
theorem b2_f {p : Prop} [Decidable p] (h : ¬ p) : b2 p = 0 := by unfold b2; rw [if_neg h]
theorem b2_0 {p : Prop} [Decidable p] : b2 p = 0 ↔ ¬ p := by unfold b2; by_cases h : p <;> simp [h]
theorem b2_1 {p : Prop} [Decidable p] : b2 p = 1 ↔ p := by unfold b2; by_cases h : p <;> simp [h]
theorem b2_c {p q : Prop} [Decidable p] [Decidable q] (h : p ↔ q) : b2 p = b2 q := by unfold b2; by_cases hp : p <;> simp [hp, h.mp, ← h]
theorem b2_v {v : Int} (h : v = 0 ∨ v = 1) : v = b2 (v = 1) := by rcases h with rfl | rfl <;> decide
theorem rg_b2 {p : Prop} [Decidable p] : rg (b2 p) := by rcases b2_01 (p := p) with h | h <;> rw [h] <;> exact ⟨by omega, by omega⟩
theorem nar_b2 {p : Prop} [Decidable p] {r : Int32} (h : r = iI (b2 p)) : narrow .boolean (.int r) = .int r := by rw [h]; exact nar_zb b2_01
section
variable {l : Launch} {p : Program} {e : Env} {R : Room} {s : State} {m : MethodId} {args : Array Value} {below : List Frame} {meth : Method} {c : Code} {cc : ByteArray} {nL : Nat} {own : String} {Ts : List Cond} {A : Nat → Prop} {D : va_G} {g : GT} {z : ZT} {Q : State → Prop} {cells slots : Nat} {ws : va_W} {lv : List (Nat × Value)} {st : List Value} {pc : Nat}
theorem j_ifb_eq (F : Fx l p s m args meth c cc nL own Ts A D g z) {q : Prop} [Decidable q] {off : Int} {tgt : Nat} (d : decode cc pc = .ok (.ifCond .eq off, 3)) (ht : (pc : Int) + off = (tgt : Int)) (k1 : ¬ q → J p l e R s m args below meth c A D nL Q cells slots ws lv st tgt) (k2 : q → J p l e R s m args below meth c A D nL Q cells slots ws lv st (pc + 3)) : J p l e R s m args below meth c A D nL Q cells slots ws lv (.int (iI (b2 q)) :: st) pc := j_if_eq F d ht rg_b2 (fun h => k1 (b2_0.mp h)) (fun h => k2 (Classical.byContradiction fun h2 => h (b2_0.mpr h2)))
theorem j_ifb_ne (F : Fx l p s m args meth c cc nL own Ts A D g z) {q : Prop} [Decidable q] {off : Int} {tgt : Nat} (d : decode cc pc = .ok (.ifCond .ne off, 3)) (ht : (pc : Int) + off = (tgt : Int)) (k1 : q → J p l e R s m args below meth c A D nL Q cells slots ws lv st tgt) (k2 : ¬ q → J p l e R s m args below meth c A D nL Q cells slots ws lv st (pc + 3)) : J p l e R s m args below meth c A D nL Q cells slots ws lv (.int (iI (b2 q)) :: st) pc := j_if_ne F d ht rg_b2 (fun h => k1 (Classical.byContradiction fun h2 => h (b2_0.mpr h2))) (fun h => k2 (b2_0.mp h))
end
/-- a number under the mask 1023 -/
theorem iI_mask {x : Int} (h : 0 ≤ x ∧ x < 1024) : iI x &&& iI 1023 = iI x := by
  obtain ⟨n, rfl⟩ := Int.eq_ofNat_of_zero_le h.1
  rw [iI_nI (z := (n : Int)) rfl, pk_andN (n := n) (by omega) 10 (by decide), Nat.mod_eq_of_lt (by omega)]
theorem j_iand1023 {l : Launch} {p : Program} {e : Env} {R : Room} {s : State} {m : MethodId} {args : Array Value} {below : List Frame} {meth : Method} {c : Code} {cc : ByteArray} {nL : Nat} {own : String} {Ts : List Cond} {A : Nat → Prop} {D : va_G} {g : GT} {z : ZT} {Q : State → Prop} {cells slots : Nat} {ws : va_W} {lv : List (Nat × Value)} {st : List Value} {pc : Nat} (F : Fx l p s m args meth c cc nL own Ts A D g z) {a : Int} (d : decode cc pc = .ok (.iand, 1)) (h : 0 ≤ a ∧ a < 1024) (k : J p l e R s m args below meth c A D nL Q cells slots ws lv (.int (iI a) :: st) (pc + 1)) : J p l e R s m args below meth c A D nL Q cells slots ws lv (.int (iI 1023) :: .int (iI a) :: st) pc := fun H locs ls hP hD hS hl => lv_iand F.x F.b d (by rw [iI_mask h]; exact k H locs ls hP hD hS hl)
def sumI (f : Nat → Int) : Nat → Int
  | 0 => 0
  | n + 1 => sumI f n + f n
/-- a heap's weight, as the class's own method tells it -/
def wtI (x : Int) : Int := if 0 ≤ x ∧ x < 13 then wtB x.toNat else 0
theorem wtB_rg : ∀ k, k < 13 → 0 ≤ wtB k ∧ wtB k ≤ 435 := by decide
theorem wtI_rg (x : Int) : 0 ≤ wtI x ∧ wtI x ≤ 435 := by
  unfold wtI
  split
  · exact wtB_rg _ (by omega)
  · omega
def sumW (f : Nat → Int) : Nat → Int
  | 0 => 0
  | n + 1 => sumW f n + wtI (f n)
end GRP
