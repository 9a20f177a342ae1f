/-! ===== OPS: moves on lists and on rows; what the answers are ===== -/
section OPS
theorem set_at {L : List Nat} {i : Nat} (v : Nat) (hi : i < L.length) (j : Nat) : (L.set i v).getD j 0 = if j = i then v else L.getD j 0 := by
  rw [List.getD_eq_getElem?_getD, List.getD_eq_getElem?_getD, List.getElem?_set]
  by_cases q : i = j
  · subst q
    rw [if_pos rfl, if_pos rfl, if_pos hi]
    rfl
  · rw [if_neg q, if_neg (fun e => q e.symm)]
theorem spA_at (t u : Nat) : ∀ {L : List Nat} {i : Nat} (_ : i < L.length) (j : Nat), (spA L i t u).getD j 0 = if j < i then L.getD j 0 else if j = i then t else if j = i + 1 then u else L.getD (j - 1) 0
  | [], i, h, _ => absurd h (Nat.not_lt_zero i)
  | x :: l, 0, _, j => by
    rw [if_neg (Nat.not_lt_zero j)]
    match j with
    | 0 => rfl
    | 1 => rfl
    | j + 2 => rw [if_neg (by omega), if_neg (by omega)]; rfl
  | x :: l, i + 1, h, j => by
    have hi : i < l.length := Nat.lt_of_succ_lt_succ h
    match j with
    | 0 => rw [if_pos (Nat.succ_pos i)]; rfl
    | j + 1 =>
      have ih := spA_at t u hi j
      show (spA l i t u).getD j 0 = _
      rw [ih]
      by_cases h1 : j < i
      · rw [if_pos h1, if_pos (by omega)]; rfl
      · rw [if_neg h1, if_neg (show ¬ j + 1 < i + 1 by omega)]
        by_cases h2 : j = i
        · rw [if_pos h2, if_pos (show j + 1 = i + 1 by omega)]
        · rw [if_neg h2, if_neg (show ¬ j + 1 = i + 1 by omega)]
          by_cases h3 : j = i + 1
          · rw [if_pos h3, if_pos (show j + 1 = i + 1 + 1 by omega)]
          · rw [if_neg h3, if_neg (show ¬ j + 1 = i + 1 + 1 by omega)]
            obtain ⟨k, rfl⟩ : ∃ k, j = k + 1 := ⟨j - 1, by omega⟩
            rfl
/-- a move of the kind k at the heap q that is possible -/
def posMv (G S M : Nat) (L : List Nat) (k q t : Nat) : Prop := q < L.length ∧ ((k = 0 ∧ 1 ≤ t ∧ t ≤ G ∧ t ≤ L.getD q 0) ∨ (k = 1 ∧ S = 1 ∧ 1 ≤ t ∧ 2 * t ≤ L.getD q 0) ∨ (k = 2 ∧ M = 1 ∧ t < L.length ∧ ¬ q = t))
theorem apL_2c (L : List Nat) (q t : Nat) : apL L 2 q t = apL L 2 t q := by
  rw [apL_2, apL_2, Nat.min_comm, Nat.max_comm, Nat.add_comm (L.getD q 0)]
theorem pos_ok {G S M : Nat} {L : List Nat} {k q t : Nat} (hL : okH L) (h : posMv G S M L k q t) : okH (apL L k q t) := by
  obtain ⟨hq, ⟨rfl, h1, h2, h3⟩ | ⟨rfl, h1, h2, h3⟩ | ⟨rfl, h1, h2, h3⟩⟩ := h
  · exact (ap_ok (g := G) (sp := S) (mg := M) (m := (0, q, t)) hL ⟨hq, Or.inl ⟨rfl, h1, h3, h2⟩⟩).1
  · exact (ap_ok (g := G) (sp := S) (mg := M) (m := (1, q, t)) hL ⟨hq, Or.inr (Or.inl ⟨rfl, h1, h2, h3⟩)⟩).1
  · rcases Nat.lt_or_ge q t with z | z
    · exact (ap_ok (g := G) (sp := S) (mg := M) (m := (2, q, t)) hL ⟨hq, Or.inr (Or.inr ⟨rfl, h1, z, h2⟩)⟩).1
    · rw [apL_2c]
      exact (ap_ok (g := G) (sp := S) (mg := M) (m := (2, t, q)) hL ⟨h2, Or.inr (Or.inr ⟨rfl, h1, by show t < q; omega, hq⟩)⟩).1
theorem coF_rep {G S M : Nat} {L : List Nat} {f : NF} (hr : rep f L) (hL : okH L) {k q t : Nat} (h : posMv G S M L k q t) : (coF L.length f k q (t : Int)).1 = (apL L k q t).length ∧ rep (coF L.length f k q (t : Int)).2 (apL L k q t) := by
  obtain ⟨hq, h⟩ := h
  have eq := hr q hq
  rcases h with ⟨rfl, h1, h2, h3⟩ | ⟨rfl, h1, h2, h3⟩ | ⟨rfl, h1, h2, h3⟩
  · unfold coF
    rw [if_pos rfl, apL_0]
    unfold shkF
    by_cases z : L.getD q 0 - t = 0
    · rw [if_pos z, if_pos (by omega)]
      have e1 := er_len hq
      refine ⟨by show L.length - 1 = _; omega, fun i hi => ?_⟩
      rw [er_at]
      show rmP _ q (L.length - 1) i = _
      unfold rmP
      by_cases w : i < q
      · rw [if_pos w, if_neg (by omega), nup_n _ _ (by omega)]
        exact hr i (by omega)
      · rw [if_neg w, if_pos (by omega), nup_n _ _ (by omega)]
        exact hr (i + 1) (by omega)
    · rw [if_neg z, if_neg (by omega)]
      refine ⟨by rw [List.length_set], fun i hi => ?_⟩
      rw [List.length_set] at hi
      rw [set_at _ hq]
      show nup f q (f q - (t : Int)) i = _
      by_cases w : i = q
      · rw [if_pos w, w, nup_s]; omega
      · rw [if_neg w, nup_n _ _ w]
        exact hr i hi
  · unfold coF
    rw [if_neg (by decide), if_pos rfl, apL_1]
    have e1 := spA_len t (L.getD q 0 - t) hq
    refine ⟨e1.symm, fun i hi => ?_⟩
    rw [e1] at hi
    rw [spA_at _ _ hq]
    show nup (insF f L.length (q + 1) (f q - (t : Int))) q (t : Int) i = _
    by_cases w : i = q
    · rw [w, nup_s, if_neg (by omega), if_pos rfl]
    · rw [nup_n _ _ w]
      unfold insF
      by_cases w2 : i < q
      · rw [if_pos w2, if_neg (by omega), if_neg (by omega)]
        exact hr i (by omega)
      · rw [if_neg w2, if_neg w]
        by_cases w3 : i = q + 1
        · rw [if_pos w3, if_pos w3]; omega
        · rw [if_neg w3, if_neg w3, if_pos (by omega)]
          exact hr (i - 1) (by omega)
  · unfold coF
    rw [if_neg (by decide), if_neg (by decide), apL_2]
    unfold mrgF
    have et : ((t : Int)).toNat = t := by omega
    have e2 := hr t h2
    have hm : max q t < L.length := by omega
    have hn : min q t < L.length := by omega
    have e1 := er_len (L := L.set (min q t) (L.getD q 0 + L.getD t 0 - 1)) (i := max q t) (by rw [List.length_set]; exact hm)
    rw [List.length_set] at e1
    have p1 := okH_at hL hq
    rw [et]
    refine ⟨by show L.length - 1 = _; omega, fun i hi => ?_⟩
    have hi2 : i < L.length - 1 := by omega
    rw [er_at]
    show rmP _ (max q t) (L.length - 1) i = _
    unfold rmP
    by_cases w : i < max q t
    · rw [if_pos w, if_neg (by omega), set_at _ hn]
      by_cases w2 : i = min q t
      · rw [if_pos w2, w2, nup_s]; omega
      · rw [if_neg w2, nup_n _ _ w2]
        exact hr i (by omega)
    · rw [if_neg w, if_pos (by omega), set_at _ hn, if_neg (by omega), nup_n _ _ (by omega)]
      exact hr (i + 1) (by omega)
theorem mv_pos {G S M : Nat} {L : List Nat} {f : NF} (hr : rep f L) {k : Nat} (hk : k < 3) {x t : Int} (h : isMv L.length (G : Int) (S : Int) (M : Int) f (k : Int) x t) : 0 ≤ x ∧ 0 ≤ t ∧ posMv G S M L k x.toNat t.toNat := by
  obtain ⟨⟨h1, h2⟩, h3⟩ := h
  have hx : x.toNat < L.length := by omega
  have e := hr x.toNat hx
  rcases (show k = 0 ∨ k = 1 ∨ k = 2 by omega) with rfl | rfl | rfl
  · rw [if_pos (by omega)] at h3
    exact ⟨h1, by omega, hx, Or.inl ⟨rfl, by omega, by omega, by omega⟩⟩
  · rw [if_neg (by omega), if_pos (by omega)] at h3
    exact ⟨h1, by omega, hx, Or.inr (Or.inl ⟨rfl, by omega, by omega, by omega⟩)⟩
  · rw [if_neg (by omega), if_neg (by omega)] at h3
    exact ⟨h1, by omega, hx, Or.inr (Or.inr ⟨rfl, by omega, by omega, by omega⟩)⟩
theorem mv_of {G S M : Nat} {L : List Nat} {f : NF} (hr : rep f L) {k q t : Nat} (h : posMv G S M L k q t) : isMv L.length (G : Int) (S : Int) (M : Int) f (k : Int) (q : Int) (t : Int) := by
  obtain ⟨hq, h⟩ := h
  have e := hr q hq
  have eq : ((q : Int)).toNat = q := by omega
  refine ⟨⟨by omega, by omega⟩, ?_⟩
  rw [eq]
  rcases h with ⟨rfl, h1, h2, h3⟩ | ⟨rfl, h1, h2, h3⟩ | ⟨rfl, h1, h2, h3⟩
  · rw [if_pos (by omega)]; omega
  · rw [if_neg (by omega), if_pos (by omega)]; omega
  · rw [if_neg (by omega), if_neg (by omega)]; omega
theorem okM_pos {G S M : Nat} {L : List Nat} {m : Mv} (h : okM G S M L m) : posMv G S M L m.1 m.2.1 m.2.2 := by
  obtain ⟨hq, ⟨h0, h1, h2, h3⟩ | ⟨h0, h1, h2, h3⟩ | ⟨h0, h1, h2, h3⟩⟩ := h
  · exact ⟨hq, Or.inl ⟨h0, h1, h3, h2⟩⟩
  · exact ⟨hq, Or.inr (Or.inl ⟨h0, h1, h2, h3⟩)⟩
  · exact ⟨hq, Or.inr (Or.inr ⟨h0, h1, h3, by omega⟩)⟩
/-- what carryOut wants of a possible move -/
theorem co_pre {G S M : Nat} {L : List Nat} {f : NF} (hr : rep f L) (hL : okH L) {k q t : Nat} (h : posMv G S M L k q t) : k < 3 ∧ q < L.length ∧ (if k = 0 then 0 ≤ (t : Int) ∧ (t : Int) ≤ 12 else if k = 1 then 1 ≤ (t : Int) ∧ (t : Int) ≤ 12 ∧ L.length < 12 else 0 ≤ (t : Int) ∧ (t : Int) < (L.length : Int) ∧ ¬ (t : Int) = (q : Int)) := by
  have hok := pos_ok hL h
  obtain ⟨hq, h⟩ := h
  have p1 := okH_at hL hq
  rcases h with ⟨rfl, h1, h2, h3⟩ | ⟨rfl, h1, h2, h3⟩ | ⟨rfl, h1, h2, h3⟩
  · exact ⟨by omega, hq, by rw [if_pos rfl]; omega⟩
  · have hl := okH_len hok
    rw [apL_1] at hl
    have e1 := spA_len t (L.getD q 0 - t) hq
    exact ⟨by omega, hq, by rw [if_neg (by decide), if_pos rfl]; omega⟩
  · exact ⟨by omega, hq, by rw [if_neg (by decide), if_neg (by decide)]; omega⟩
/-- won, by the ending -/
def wonV (v : VT) (nm : Nat) : Nat := if nm = 0 then v.2.1 else if v.1 = 0 then 0 else 1
theorem wonV_I (v : VT) (nm : Nat) : wonI ((v.1 : Nat) : Int) ((v.2.1 : Nat) : Int) (nm : Int) = ((wonV v nm : Nat) : Int) := by
  unfold wonI wonV
  by_cases h : nm = 0
  · rw [if_pos h, if_pos (by omega)]
  · rw [if_neg h, if_neg (by omega)]
    by_cases h2 : v.1 = 0
    · rw [if_pos h2, if_pos (by omega)]; rfl
    · rw [if_neg h2, if_neg (by omega)]; rfl
theorem wonV_01 {v : VT} (h : v.2.1 ≤ 1) (nm : Nat) : wonV v nm ≤ 1 := by
  unfold wonV
  split
  · exact h
  · split <;> omega
/-- how many of the first j win; the first that wins; the longest -/
def wcF (vs : List VT) (nm : Nat) : Nat → Nat
  | 0 => 0
  | j + 1 => wcF vs nm j + (if wonV (vs.getD j v0) nm = 0 then 1 else 0)
def fwF (vs : List VT) (nm : Nat) : Nat → Int
  | 0 => -1
  | j + 1 => if fwF vs nm j = -1 then (if wonV (vs.getD j v0) nm = 0 then (j : Int) else -1) else fwF vs nm j
def lmF (vs : List VT) : Nat → Int × Int
  | 0 => (-1, -1)
  | j + 1 => if (lmF vs j).2 < (((vs.getD j v0).2.2.1 : Nat) : Int) then ((j : Int), (((vs.getD j v0).2.2.1 : Nat) : Int)) else lmF vs j
def brF (vs : List VT) (nm : Nat) : Int := if fwF vs nm vs.length = -1 then (lmF vs vs.length).1 else fwF vs nm vs.length
theorem wcF_le (vs : List VT) (nm : Nat) : ∀ j, wcF vs nm j ≤ j
  | 0 => Nat.le_refl 0
  | j + 1 => by
    have := wcF_le vs nm j
    rw [wcF]
    split <;> omega
theorem fwF_b (vs : List VT) (nm : Nat) : ∀ j, -1 ≤ fwF vs nm j ∧ fwF vs nm j < j
  | 0 => ⟨by show (-1 : Int) ≤ -1; omega, by show (-1 : Int) < ((0 : Nat) : Int); omega⟩
  | j + 1 => by
    have := fwF_b vs nm j
    rw [fwF]
    split
    · split <;> omega
    · omega
theorem lmF_b {vs : List VT} (h : ∀ v ∈ vs, v.2.2.1 ≤ 23) : ∀ j, j ≤ vs.length → -1 ≤ (lmF vs j).1 ∧ (lmF vs j).1 < j ∧ -1 ≤ (lmF vs j).2 ∧ (lmF vs j).2 ≤ 23
  | 0, _ => ⟨by show (-1 : Int) ≤ -1; omega, by show (-1 : Int) < ((0 : Nat) : Int); omega, by show (-1 : Int) ≤ -1; omega, by show (-1 : Int) ≤ 23; omega⟩
  | j + 1, hj => by
    have ih := lmF_b h j (by omega)
    have h2 := h _ (getD_memV (vs := vs) (j := j) (by omega))
    rw [lmF]
    split
    · exact ⟨by show (-1 : Int) ≤ (j : Int); omega, by show (j : Int) < ((j + 1 : Nat) : Int); omega, by show (-1 : Int) ≤ (((vs.getD j v0).2.2.1 : Nat) : Int); omega, by show (((vs.getD j v0).2.2.1 : Nat) : Int) ≤ 23; omega⟩
    · omega
theorem fwF_keep {vs : List VT} {nm : Nat} {j : Nat} (h : ¬ fwF vs nm j = -1) : ∀ k, j ≤ k → fwF vs nm k = fwF vs nm j := by
  intro k hk
  induction k with
  | zero => rw [show j = 0 by omega]
  | succ k ih =>
    by_cases q : j = k + 1
    · rw [q]
    · have := ih (by omega)
      rw [fwF, if_neg (by rw [this]; exact h), this]
/-- the numbers of the heaps, each by itself, put together -/
def xrF (G S M : Nat) (L : List Nat) : Nat → Nat
  | 0 => 0
  | j + 1 => xrF G S M L j ^^^ (val G S M [L.getD j 0]).1
theorem okH_1 {x : Nat} (h : 1 ≤ x ∧ x ≤ 12) : okH [x] := ⟨fun y hy => by rw [List.mem_singleton] at hy; subst hy; exact h.1, by show x + 0 ≤ 12; omega⟩
theorem xrF_lt {G S M : Nat} {L : List Nat} (hL : okH L) : ∀ j, j ≤ L.length → xrF G S M L j < 32
  | 0, _ => by show 0 < 32; omega
  | j + 1, hj => by
    have ih := xrF_lt hL (G := G) (S := S) (M := M) j (by omega)
    have h1 := (val_b (g := G) (sp := S) (mg := M) (okH_1 (okH_at hL (i := j) (by omega)))).1
    exact Nat.xor_lt_two_pow (n := 5) ih (by omega)
theorem iI_xor (a b : Nat) : iI (a : Int) ^^^ iI (b : Int) = iI ((a ^^^ b : Nat) : Int) := by
  rw [iI_nI rfl, iI_nI rfl, iI_nI rfl]
  apply Int32.toBitVec_inj.1
  show BitVec.ofNat 32 a ^^^ BitVec.ofNat 32 b = BitVec.ofNat 32 (a ^^^ b)
  apply BitVec.eq_of_getLsbD_eq
  intro i hi
  simp [hi]
/-- the words of the three throws that the tables alone don't give -/
theorem thr7A : ∀ w ∈ (vx_atS RX6 59 "java/lang/IllegalArgumentException" exN).filter (fun w => !goodWord w), w ∈ Cond.castable "java/lang/IllegalArgumentException" "java/lang/IllegalArgumentException" :: exWs := by decide +kernel
theorem thr7S : ∀ w ∈ (vx_atS RX6 66 "java/lang/IllegalStateException" exN).filter (fun w => !goodWord w), w ∈ Cond.castable "java/lang/IllegalStateException" "java/lang/IllegalStateException" :: exWs := by decide +kernel
theorem thr7B : ∀ w ∈ (vx_atS RX6 287 "java/lang/IndexOutOfBoundsException" exN).filter (fun w => !goodWord w), w ∈ Cond.castable "java/lang/IndexOutOfBoundsException" "java/lang/IndexOutOfBoundsException" :: exWs := by decide +kernel
theorem thr9A : ∀ w ∈ Cond.classLink RX6 55 "java/lang/IllegalArgumentException" :: Cond.initialized "java/lang/IllegalArgumentException" :: vx_atS RX6 59 "java/lang/IllegalArgumentException" exN, vx_ot w = true := by decide +kernel
theorem thr9S : ∀ w ∈ Cond.classLink RX6 62 "java/lang/IllegalStateException" :: Cond.initialized "java/lang/IllegalStateException" :: vx_atS RX6 66 "java/lang/IllegalStateException" exN, vx_ot w = true := by decide +kernel
theorem thr9B : ∀ w ∈ Cond.classLink RX6 283 "java/lang/IndexOutOfBoundsException" :: Cond.initialized "java/lang/IndexOutOfBoundsException" :: vx_atS RX6 287 "java/lang/IndexOutOfBoundsException" exN, vx_ot w = true := by decide +kernel
end OPS
