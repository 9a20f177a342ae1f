/-! ===== LAW: rows for same; the copy of the heaps; the share ===== -/
section LROWS2
variable {l : Launch} {p : Program} {e : Env} {R : Room} {s : State} {m : MethodId} {args : Array Value} {below : List Frame} {meth : Method} {c : Code} {A : Nat → Prop} {D : va_G} {nL : Nat} {Q : State → Prop} {cells slots : Nat} {ws : va_W} {lv : List (Nat × Value)} {st : List Value} {pc : Nat}
/-- cells are left behind -/
theorem J.dropL {b c0 : va_W} (k : J p l e R s m args below meth c A D nL Q cells slots c0 lv st pc) : J p l e R s m args below meth c A D nL Q cells slots (b ++ c0) lv st pc := fun H locs ls hP hD hS hl => k H locs ls (fun i q hi => hP (i + b.length) q (by rw [List.getElem?_append_right (by omega), Nat.add_sub_cancel]; exact hi)) ⟨fun i j x y hi hj h => by
  have h9 := hD.1 (i + b.length) (j + b.length) x y (by rw [List.getElem?_append_right (by omega), Nat.add_sub_cancel]; exact hi) (by rw [List.getElem?_append_right (by omega), Nat.add_sub_cancel]; exact hj) h
  omega, fun i q hi => hD.2 (i + b.length) q (by rw [List.getElem?_append_right (by omega), Nat.add_sub_cancel]; exact hi)⟩ hS hl
theorem J.topD {v v' : UInt64} (h : v = v') (k : J p l e R s m args below meth c A D nL Q cells slots ws lv (.double v' :: st) pc) : J p l e R s m args below meth c A D nL Q cells slots ws lv (.double v :: st) pc := by rw [h]; exact k
theorem ncpy_0 (f h : Nat → Int) : ncpy f h 0 = h := by
  funext j
  unfold ncpy
  rw [if_neg (Nat.not_lt_zero j)]
theorem ncpy_s (f h : Nat → Int) (n : Nat) : nup (ncpy f h n) n (f n) = ncpy f h (n + 1) := by
  funext j
  unfold nup ncpy
  by_cases q : j = n
  · rw [if_pos q, if_pos (show j < n + 1 by omega), q]
  · rw [if_neg q]
    by_cases q2 : j < n
    · rw [if_pos q2, if_pos (show j < n + 1 by omega)]
    · rw [if_neg q2, if_neg (show ¬ j < n + 1 by omega)]
theorem rep_ncpy {f h : NF} {L : List Nat} {n : Nat} (hr : rep f L) (hn : n = L.length) : rep (ncpy f h n) L := by
  intro i hi
  unfold ncpy
  rw [if_pos (by omega)]
  exact hr i hi
theorem lvP_v {G S M : Nat} {L : List Nat} {k i j : Nat} (hL : okS L) (hG : G ≤ 5) (hk : k < 3) (hi : i < L.length) (hj : j < 11) (hc : cdB G S M L k i (j + 1)) : (bhV G S M L).getD (lvP G S M L k i j).length v0 = val G S M (apL L k i (j + 1)) := by
  obtain ⟨h1, h2⟩ := lvP_at hL hG hk hi hj hc
  unfold bhV
  rw [getD_map _ v0 m0 h1, h2]
theorem lvP_n {G S M : Nat} {L : List Nat} {k i j : Nat} (h : ¬ cdB G S M L k i (j + 1)) : lvP G S M L k i (j + 1) = lvP G S M L k i j := by
  rw [lvP_s, if_neg h, List.append_nil]
theorem lvP_y {G S M : Nat} {L : List Nat} {k i j : Nat} (h : cdB G S M L k i (j + 1)) : (lvP G S M L k i (j + 1)).length = (lvP G S M L k i j).length + 1 := by
  rw [lvP_s, if_pos h, List.length_append]
  rfl
theorem brP_e {vs : List VT} {nm n : Nat} (h : n = vs.length) : brP vs nm n = brF vs nm := by
  subst h
  rfl
set_option maxRecDepth 100000 in
theorem shD_cmp : ∀ w, w < 32 → ∀ n, n < 32 → Op.cmpValue (FP.dcmp (shD w n) (shD w n)) .l = iI 0 := by decide +kernel
theorem posMv_c {G S M : Nat} {L : List Nat} {k i v : Nat} (hi : i < L.length) (hv : 1 ≤ v) (hc : cdB G S M L k i v) : posMv G S M L k i v ∧ (k = 2 → i < v) := by
  refine ⟨okM_pos (m := (k, i, v)) (cd_ok hi hv hc), fun e9 => ?_⟩
  rcases hc with h | h | h <;> omega
end LROWS2
