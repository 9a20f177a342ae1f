/-! ===== LAW, PURE: the moves in the law's order; what it counts of them ===== -/
section LENUM
/-- what the law lets pass, of v from 1 on -/
abbrev cdB (G S M : Nat) (L : List Nat) (k i v : Nat) : Prop := (k = 0 ∧ v ≤ G ∧ v ≤ L.getD i 0) ∨ (k = 1 ∧ S = 1 ∧ 2 * v ≤ L.getD i 0) ∨ (k = 2 ∧ M = 1 ∧ i < v ∧ v < L.length)
def lvV (G S M : Nat) (L : List Nat) (k i : Nat) : Nat → List Mv
  | 0 => []
  | j + 1 => lvV G S M L k i j ++ (if cdB G S M L k i (j + 1) then [(k, i, j + 1)] else [])
def lvI (G S M : Nat) (L : List Nat) (k : Nat) : Nat → List Mv
  | 0 => []
  | i + 1 => lvI G S M L k i ++ lvV G S M L k i 11
def lvK (G S M : Nat) (L : List Nat) : Nat → List Mv
  | 0 => []
  | k + 1 => lvK G S M L k ++ lvI G S M L k L.length
theorem lvV_0 (G S M : Nat) (L : List Nat) (i : Nat) : ∀ j, lvV G S M L 0 i j = tkR i (min j (min (L.getD i 0) G))
  | 0 => by rw [Nat.zero_min]; rfl
  | j + 1 => by
    rw [lvV, lvV_0 G S M L i j]
    by_cases q : j + 1 ≤ min (L.getD i 0) G
    · rw [if_pos (Or.inl ⟨rfl, by omega, by omega⟩), show min (j + 1) (min (L.getD i 0) G) = min j (min (L.getD i 0) G) + 1 by omega, tkR, show min j (min (L.getD i 0) G) + 1 = j + 1 by omega]
    · rw [if_neg (by omega), List.append_nil, show min (j + 1) (min (L.getD i 0) G) = min j (min (L.getD i 0) G) by omega]
theorem lvV_1 {S : Nat} (G M : Nat) (hS : S = 1) (L : List Nat) (i : Nat) : ∀ j, lvV G S M L 1 i j = spR i (min j (L.getD i 0 / 2))
  | 0 => by rw [Nat.zero_min]; rfl
  | j + 1 => by
    rw [lvV, lvV_1 G M hS L i j]
    by_cases q : j + 1 ≤ L.getD i 0 / 2
    · rw [if_pos (Or.inr (Or.inl ⟨rfl, hS, by omega⟩)), show min (j + 1) (L.getD i 0 / 2) = min j (L.getD i 0 / 2) + 1 by omega, spR, show min j (L.getD i 0 / 2) + 1 = j + 1 by omega]
    · rw [if_neg (by omega), List.append_nil, show min (j + 1) (L.getD i 0 / 2) = min j (L.getD i 0 / 2) by omega]
theorem lvV_2 {M : Nat} (G S : Nat) (hM : M = 1) (L : List Nat) (i : Nat) : ∀ j, lvV G S M L 2 i j = mgR i (min j (L.length - 1) - i)
  | 0 => by rw [Nat.zero_min, Nat.zero_sub]; rfl
  | j + 1 => by
    rw [lvV, lvV_2 G S hM L i j]
    by_cases q : i < j + 1 ∧ j + 1 < L.length
    · rw [if_pos (Or.inr (Or.inr ⟨rfl, hM, q.1, q.2⟩)), show min (j + 1) (L.length - 1) - i = (min j (L.length - 1) - i) + 1 by omega, mgR, show i + 1 + (min j (L.length - 1) - i) = j + 1 by omega]
    · rw [if_neg (by omega), List.append_nil, show min (j + 1) (L.length - 1) - i = min j (L.length - 1) - i by omega]
theorem lvV_no {G S M k : Nat} {L : List Nat} (i : Nat) (h : ∀ v, ¬ cdB G S M L k i v) : ∀ j, lvV G S M L k i j = []
  | 0 => rfl
  | j + 1 => by rw [lvV, lvV_no i h j, if_neg (h _)]; rfl
theorem lvI_0 {G S M : Nat} {L : List Nat} (hG : G ≤ 5) : ∀ i, lvI G S M L 0 i = tkL G L i
  | 0 => rfl
  | i + 1 => by rw [lvI, tkL, lvI_0 hG i, lvV_0, show min 11 (min (L.getD i 0) G) = min (L.getD i 0) G by omega]
theorem lvI_1 {G S M : Nat} {L : List Nat} (hL : okS L) (hS : S = 1) : ∀ i, i ≤ L.length → lvI G S M L 1 i = spL L i
  | 0, _ => rfl
  | i + 1, hi => by
    have h := sm_mem (getD_mem (L := L) (i := i) hi)
    have h2 := hL.2
    rw [lvI, spL, lvI_1 hL hS i (by omega), lvV_1 G M hS, show min 11 (L.getD i 0 / 2) = L.getD i 0 / 2 by omega]
theorem lvI_2 {G S M : Nat} {L : List Nat} (hL : okS L) (hM : M = 1) : ∀ i, lvI G S M L 2 i = mgL L.length i
  | 0 => rfl
  | i + 1 => by
    have h := sm_len hL.1
    have h2 := hL.2
    rw [lvI, mgL, lvI_2 hL hM i, lvV_2 G S hM, show min 11 (L.length - 1) = L.length - 1 by omega]
theorem lvI_no {G S M k : Nat} {L : List Nat} (h : ∀ i v, ¬ cdB G S M L k i v) : ∀ i, lvI G S M L k i = []
  | 0 => rfl
  | i + 1 => by rw [lvI, lvI_no h i, lvV_no i (h i)]; rfl
theorem lvK_3 {G S M : Nat} {L : List Nat} (hL : okS L) (hG : G ≤ 5) : lvK G S M L 3 = mvL G S M L := by
  have e0 : lvK G S M L 3 = (lvI G S M L 0 L.length ++ lvI G S M L 1 L.length) ++ lvI G S M L 2 L.length := rfl
  rw [e0, lvI_0 hG, List.append_assoc]
  unfold mvL
  congr 1
  congr 1
  · by_cases q : S = 1
    · rw [if_pos q, lvI_1 hL q _ (Nat.le_refl _)]
    · rw [if_neg q, lvI_no (fun i v => by omega)]
  · by_cases q : M = 1
    · rw [if_pos q, lvI_2 hL q]
    · rw [if_neg q, lvI_no (fun i v => by omega)]
/-- the moves ahead of (k, i, j + 1) -/
def lvP (G S M : Nat) (L : List Nat) (k i j : Nat) : List Mv := lvK G S M L k ++ (lvI G S M L k i ++ lvV G S M L k i j)
theorem lvV_pf (G S M : Nat) (L : List Nat) (k i : Nat) {n m : Nat} (hn : n ≤ m) : ∃ t, lvV G S M L k i n ++ t = lvV G S M L k i m := by
  induction m with
  | zero => rw [show n = 0 by omega]; exact ⟨[], List.append_nil _⟩
  | succ m ih =>
    by_cases q : n = m + 1
    · rw [q]; exact ⟨[], List.append_nil _⟩
    · exact pf_tr (ih (by omega)) ⟨_, rfl⟩
theorem lvI_pf (G S M : Nat) (L : List Nat) (k : Nat) {n m : Nat} (hn : n ≤ m) : ∃ t, lvI G S M L k n ++ t = lvI G S M L k m := by
  induction m with
  | zero => rw [show n = 0 by omega]; exact ⟨[], List.append_nil _⟩
  | succ m ih =>
    by_cases q : n = m + 1
    · rw [q]; exact ⟨[], List.append_nil _⟩
    · exact pf_tr (ih (by omega)) ⟨_, rfl⟩
theorem lvK_pf (G S M : Nat) (L : List Nat) {n m : Nat} (hn : n ≤ m) : ∃ t, lvK G S M L n ++ t = lvK G S M L m := by
  induction m with
  | zero => rw [show n = 0 by omega]; exact ⟨[], List.append_nil _⟩
  | succ m ih =>
    by_cases q : n = m + 1
    · rw [q]; exact ⟨[], List.append_nil _⟩
    · exact pf_tr (ih (by omega)) ⟨_, rfl⟩
theorem lvP_pf {G S M : Nat} {L : List Nat} {k i j : Nat} (hL : okS L) (hG : G ≤ 5) (hk : k < 3) (hi : i < L.length) (hj : j ≤ 11) : ∃ t, lvP G S M L k i j ++ t = mvL G S M L := by
  rw [← lvK_3 hL hG]
  exact pf_tr (pf_l _ (pf_tr (pf_l _ (lvV_pf G S M L k i hj)) (lvI_pf G S M L k (show i + 1 ≤ L.length by omega)))) (lvK_pf G S M L (show k + 1 ≤ 3 by omega))
theorem lvP_s {G S M : Nat} {L : List Nat} {k i j : Nat} : lvP G S M L k i (j + 1) = lvP G S M L k i j ++ (if cdB G S M L k i (j + 1) then [(k, i, j + 1)] else []) := by
  unfold lvP
  rw [lvV, List.append_assoc, List.append_assoc]
theorem lvP_i {G S M : Nat} {L : List Nat} {k i : Nat} : lvP G S M L k i 11 = lvP G S M L k (i + 1) 0 := by
  unfold lvP
  show _ = lvK G S M L k ++ (lvI G S M L k (i + 1) ++ [])
  rw [List.append_nil]
  rfl
theorem lvP_k {G S M : Nat} {L : List Nat} {k : Nat} : lvP G S M L k L.length 0 = lvP G S M L (k + 1) 0 0 := by
  unfold lvP
  show lvK G S M L k ++ (lvI G S M L k L.length ++ []) = (lvK G S M L k ++ lvI G S M L k L.length) ++ ([] ++ [])
  rw [List.append_nil, List.append_nil]
  exact (List.append_nil _).symm
theorem lvP_3 {G S M : Nat} {L : List Nat} (hL : okS L) (hG : G ≤ 5) : lvP G S M L 3 0 0 = mvL G S M L := by
  unfold lvP
  rw [lvK_3 hL hG]
  exact List.append_nil _
theorem pf_at {α : Type} {a b : List α} {x d : α} (h : ∃ t, (a ++ [x]) ++ t = b) : a.length < b.length ∧ b.getD a.length d = x := by
  obtain ⟨t, rfl⟩ := h
  refine ⟨by rw [List.length_append, List.length_append]; show a.length < a.length + 1 + t.length; omega, ?_⟩
  rw [getD_app_l (by rw [List.length_append]; show a.length < a.length + 1; omega), getD_app_r]
theorem lvP_at {G S M : Nat} {L : List Nat} {k i j : Nat} (hL : okS L) (hG : G ≤ 5) (hk : k < 3) (hi : i < L.length) (hj : j < 11) (hc : cdB G S M L k i (j + 1)) : (lvP G S M L k i j).length < (mvL G S M L).length ∧ (mvL G S M L).getD (lvP G S M L k i j).length m0 = (k, i, j + 1) := by
  have h := lvP_pf (M := M) (S := S) hL hG hk hi (show j + 1 ≤ 11 by omega)
  rw [lvP_s, if_pos hc] at h
  exact pf_at h
theorem cd_ok {G S M : Nat} {L : List Nat} {k i v : Nat} (hi : i < L.length) (hv : 1 ≤ v) (hc : cdB G S M L k i v) : okM G S M L (k, i, v) := by
  refine ⟨hi, ?_⟩
  rcases hc with ⟨h0, h1, h2⟩ | ⟨h0, h1, h2⟩ | ⟨h0, h1, h2, h3⟩
  · exact Or.inl ⟨h0, hv, h2, h1⟩
  · exact Or.inr (Or.inl ⟨h0, h1, hv, h2⟩)
  · exact Or.inr (Or.inr ⟨h0, h1, h2, h3⟩)
theorem mgL_len7 : ∀ n, n < 8 → (mgL n n).length ≤ 21 := by decide
theorem mvL_31 {G S M : Nat} {L : List Nat} (h : okS L) : (mvL G S M L).length ≤ 31 := by
  have h1 := tkL_len G L L.length
  have h2 := spL_len L L.length
  have h5 := sm_len h.1
  have h4 := h.2
  have h3 := mgL_len7 L.length (by omega)
  rw [smT_all] at h1 h2
  unfold mvL
  rw [List.length_append, List.length_append]
  have z : ([] : List Mv).length = 0 := rfl
  split <;> split <;> (try rw [z]) <;> omega
/-- the best so far -/
def brP (vs : List VT) (nm j : Nat) : Int := if fwF vs nm j = -1 then (lmF vs j).1 else fwF vs nm j
theorem wc_fw (vs : List VT) (nm : Nat) : ∀ j, wcF vs nm j = 0 ↔ fwF vs nm j = -1
  | 0 => ⟨fun _ => rfl, fun _ => rfl⟩
  | j + 1 => by
    have ih := wc_fw vs nm j
    rw [wcF, fwF]
    by_cases q : fwF vs nm j = -1
    · rw [if_pos q]
      by_cases q2 : wonV (vs.getD j v0) nm = 0
      · rw [if_pos q2, if_pos q2]; omega
      · rw [if_neg q2, if_neg q2]
        have := ih.mpr q
        omega
    · rw [if_neg q]
      have : ¬ wcF vs nm j = 0 := fun h => q (ih.mp h)
      omega
/-- what the law holds when j moves are seen: how many win, the best, the longest -/
def ctI (vs : List VT) (nm j : Nat) (wi : Nat) (fi fa : Int) : Prop := wi = wcF vs nm j ∧ fi = brP vs nm j ∧ (wi = 0 → fa = (lmF vs j).2) ∧ -1 ≤ fa ∧ fa ≤ 23
theorem ctI_0 (vs : List VT) (nm : Nat) : ctI vs nm 0 0 (-1) (-1) := ⟨rfl, rfl, fun _ => rfl, by omega, by omega⟩
theorem ctI_w {vs : List VT} {nm j wi : Nat} {fi fa : Int} (h : ctI vs nm j wi fi fa) (hw : wonV (vs.getD j v0) nm = 0) {fi2 : Int} (hf : fi2 = if wi + 1 = 1 then (j : Int) else fi) : ctI vs nm (j + 1) (wi + 1) fi2 fa := by
  obtain ⟨h1, h2, h3, h4, h5⟩ := h
  have hz := wc_fw vs nm j
  refine ⟨by rw [wcF, if_pos hw, h1], ?_, fun e => by omega, h4, h5⟩
  rw [hf]
  unfold brP
  rw [fwF]
  by_cases q : fwF vs nm j = -1
  · have e := hz.mpr q
    rw [if_pos q, if_pos hw, if_pos (by omega), if_neg (by omega)]
  · have e : ¬ wcF vs nm j = 0 := fun x => q (hz.mp x)
    rw [if_neg q, if_neg (by omega), if_neg q, h2]
    unfold brP
    rw [if_neg q]
theorem ctI_l {vs : List VT} {nm j wi : Nat} {fi fa : Int} (h : ctI vs nm j wi fi fa) (hw : ¬ wonV (vs.getD j v0) nm = 0) (hl : (vs.getD j v0).2.2.1 ≤ 23) {fi2 fa2 : Int} (hf : (fi2, fa2) = if wi = 0 ∧ fa < (((vs.getD j v0).2.2.1 : Nat) : Int) then ((j : Int), (((vs.getD j v0).2.2.1 : Nat) : Int)) else (fi, fa)) : ctI vs nm (j + 1) wi fi2 fa2 := by
  obtain ⟨h1, h2, h3, h4, h5⟩ := h
  have hz := wc_fw vs nm j
  have e1 : wcF vs nm (j + 1) = wcF vs nm j := by rw [wcF, if_neg hw]; rfl
  have e2 : fwF vs nm (j + 1) = fwF vs nm j := by
    rw [fwF]
    by_cases q : fwF vs nm j = -1
    · rw [if_pos q, if_neg hw, q]
    · rw [if_neg q]
  by_cases q : wi = 0
  · have q2 := hz.mp (h1.symm.trans q)
    have h3' := h3 q
    by_cases q3 : fa < (((vs.getD j v0).2.2.1 : Nat) : Int)
    · rw [if_pos ⟨q, q3⟩] at hf
      obtain ⟨rfl, rfl⟩ := Prod.mk.inj hf
      have e3 : lmF vs (j + 1) = ((j : Int), (((vs.getD j v0).2.2.1 : Nat) : Int)) := by rw [lmF, if_pos (by rw [← h3']; exact q3)]
      refine ⟨by rw [e1, h1], ?_, fun _ => by rw [e3], by omega, by omega⟩
      unfold brP
      rw [e2, if_pos q2, e3]
    · rw [if_neg (fun x => q3 x.2)] at hf
      obtain ⟨rfl, rfl⟩ := Prod.mk.inj hf
      have e3 : lmF vs (j + 1) = lmF vs j := by rw [lmF, if_neg (by rw [← h3']; exact q3)]
      refine ⟨by rw [e1, h1], ?_, fun _ => by rw [e3, h3'], h4, h5⟩
      rw [h2]
      unfold brP
      rw [e2, e3]
  · have q2 : ¬ fwF vs nm j = -1 := fun x => q (h1.trans (hz.mpr x))
    rw [if_neg (fun x => q x.1)] at hf
    obtain ⟨rfl, rfl⟩ := Prod.mk.inj hf
    refine ⟨by rw [e1, h1], ?_, fun x => absurd x q, h4, h5⟩
    rw [h2]
    unfold brP
    rw [e2, if_neg q2, if_neg q2]
/-- the numbers of each heap size among the first j heaps -/
def cntF (L : List Nat) (j : Nat) : Nat → Int := fun a => (((L.take j).count a : Nat) : Int)
theorem cntF_0 (L : List Nat) : cntF L 0 = fun _ => 0 := by
  funext a
  show (((L.take 0).count a : Nat) : Int) = 0
  rw [List.take_zero]
  rfl
theorem cntF_s {L : List Nat} {j : Nat} (h : j < L.length) : nup (cntF L j) (L.getD j 0) (cntF L j (L.getD j 0) + 1) = cntF L (j + 1) := by
  funext a
  unfold nup cntF
  rw [take_s 0 h, List.count_append, List.count_singleton]
  by_cases q : a = L.getD j 0
  · rw [if_pos q, q, if_pos (by simp)]
    omega
  · rw [if_neg q, if_neg (by simp; exact fun e => q e.symm)]
    rfl
theorem cntF_c {L : List Nat} {n : Nat} (hn : n = L.length) : codI (cntF L n) 7 = ((codeL L : Nat) : Int) := by
  rw [codI_N (h := fun a => L.count a) (fun a _ _ => by unfold cntF; rw [hn, List.take_length]) 7 (Nat.le_refl _)]
  rfl
/-- one heap of x stones, in a row of numbers -/
def oneF (x : Nat) (f : Nat → Int) (j : Nat) : Nat → Int := fun a => if a < j then (if a = x then 1 else 0) else f a
theorem oneF_0 (x : Nat) (f : Nat → Int) : oneF x f 0 = f := by
  funext a
  unfold oneF
  rw [if_neg (Nat.not_lt_zero a)]
theorem oneF_s (x : Nat) (f : Nat → Int) (j : Nat) {v : Int} (hv : v = if j = x then 1 else 0) : nup (oneF x f j) j v = oneF x f (j + 1) := by
  funext a
  unfold nup oneF
  by_cases q : a = j
  · rw [if_pos q, if_pos (by omega), hv, q]
  · rw [if_neg q]
    by_cases q2 : a < j
    · rw [if_pos q2, if_pos (show a < j + 1 by omega)]
    · rw [if_neg q2, if_neg (show ¬ a < j + 1 by omega)]
theorem oneF_c {x : Nat} (f : Nat → Int) : codI (oneF x f 8) 7 = ((codeL [x] : Nat) : Int) := by
  rw [codI_N (h := fun a => [x].count a) (fun a h1 h2 => by
    unfold oneF
    rw [if_pos h2, List.count_singleton]
    by_cases q : a = x
    · rw [if_pos q, if_pos (by simp [q])]; rfl
    · rw [if_neg q, if_neg (by simp; exact fun e => q e.symm)]; rfl) 7 (Nat.le_refl _)]
  rfl
theorem okS_1 {L : List Nat} (h : okS L) {i : Nat} (hi : i < L.length) : okS [L.getD i 0] := by
  have h1 := getD_mem hi
  have h2 := sm_mem h1
  have h3 := h.2
  exact ⟨fun y hy => by rw [List.mem_singleton.mp hy]; exact h.1 _ h1, by show L.getD i 0 + 0 ≤ 7; omega⟩
theorem okS_at {L : List Nat} (h : okS L) {i : Nat} (hi : i < L.length) : 1 ≤ L.getD i 0 ∧ L.getD i 0 ≤ 7 := by
  have h1 := getD_mem hi
  have h2 := sm_mem h1
  have h3 := h.2
  exact ⟨h.1 _ h1, by omega⟩
theorem okS_len {L : List Nat} (h : okS L) : L.length ≤ 7 := Nat.le_trans (sm_len h.1) h.2
/-- the law's tables hold what the positions are worth -/
def tabL (G S M : Nat) (gF wF lF bF : NF) : Prop := ∀ k, k < 45 → tabAt gF lF bF wF k (vC G S M (posL.getD k 0))
theorem tabL_v {G S M : Nat} {gF wF lF bF : NF} (h : tabL G S M gF wF lF bF) {L : List Nat} (hL : okS L) {i : Nat} (hi : i < 45) (e : posL.getD i 0 = codeL L) : tabAt gF lF bF wF i (val G S M L) := by
  rw [val_C hL, ← e]
  exact h i hi
end LENUM
