/-! ===== LAW, PURE: where the moves of a code lead; what the law has noted ===== -/
section LNEXT
def c1F (c a : Nat) : Nat → Int := nup (cI c) a (cI c a - 1)
def tkF (c a v : Nat) : Nat → Int := nup (c1F c a) (a - v) (c1F c a (a - v) + 1)
def s1F (c a v : Nat) : Nat → Int := nup (c1F c a) v (c1F c a v + 1)
def spF (c a v : Nat) : Nat → Int := nup (s1F c a v) (a - v) (s1F c a v (a - v) + 1)
def m1F (c a d : Nat) : Nat → Int := nup (c1F c a) d (c1F c a d - 1)
def mgF (c a d : Nat) : Nat → Int := nup (m1F c a d) (a + d - 1) (m1F c a d (a + d - 1) + 1)
theorem nup_id (f : Nat → Int) (a : Nat) {v w : Int} (h : w = f a) : nup (nup f a v) a w = f := by
  funext j
  unfold nup
  by_cases q : j = a
  · rw [if_pos q, h, q]
  · rw [if_neg q, if_neg q]
theorem nup_me (f : Nat → Int) (a : Nat) : nup f a (f a) = f := by
  funext j
  unfold nup
  by_cases q : j = a
  · rw [if_pos q, q]
  · rw [if_neg q]
def ixL : List Nat → Nat → Nat → Nat
  | [], _, k => k
  | x :: l, c, k => if x = c then k else ixL l c (k + 1)
def ixC (c : Int) : Nat := ixL posL c.toNat 0
def tkN (c a v : Nat) : Nat := ixC (codI (tkF c a v) 7)
def spN (c a v : Nat) : Nat := ixC (codI (spF c a v) 7)
def mgN (c a d : Nat) : Nat := ixC (codI (mgF c a d) 7)
def ntk (c a : Nat) : Nat → List Nat
  | 0 => []
  | j + 1 => ntk c a j ++ [tkN c a (j + 1)]
def nsp (c a : Nat) : Nat → List Nat
  | 0 => []
  | j + 1 => nsp c a j ++ [spN c a (j + 1)]
def nmg (c a : Nat) : Nat → List Nat
  | 0 => []
  | j + 1 => nmg c a j ++ (if c1F c a (j + 1) = 0 then [] else [mgN c a (j + 1)])
def nxA (G S M c : Nat) : Nat → List Nat
  | 0 => []
  | j + 1 => nxA G S M c j ++ (if cI c (j + 1) = 0 then [] else ntk c (j + 1) (min G (j + 1)) ++ ((if S = 1 then nsp c (j + 1) ((j + 1) / 2) else []) ++ (if M = 1 then nmg c (j + 1) 7 else [])))
def tkB (k a v : Nat) : Bool := decide (cI (posL.getD k 0) a = 0) || (decide (¬ (1 ≤ v ∧ v ≤ a)) || (decide (tkN (posL.getD k 0) a v < k) && decide (codI (tkF (posL.getD k 0) a v) 7 = ((posL.getD (tkN (posL.getD k 0) a v) 0 : Nat) : Int))))
def spB (k a v : Nat) : Bool := decide (cI (posL.getD k 0) a = 0) || (decide (¬ (1 ≤ v ∧ 2 * v ≤ a)) || (decide (spN (posL.getD k 0) a v < k) && decide (codI (spF (posL.getD k 0) a v) 7 = ((posL.getD (spN (posL.getD k 0) a v) 0 : Nat) : Int))))
def mgB (k a d : Nat) : Bool := decide (cI (posL.getD k 0) a = 0) || (decide (c1F (posL.getD k 0) a d = 0) || (decide (a + d - 1 < 8 ∧ mgN (posL.getD k 0) a d < k) && decide (codI (mgF (posL.getD k 0) a d) 7 = ((posL.getD (mgN (posL.getD k 0) a d) 0 : Nat) : Int))))
set_option maxRecDepth 100000 in
theorem tk_okB : ∀ k, k < 45 → ∀ a, a < 8 → ∀ v, v < 8 → tkB k a v = true := by decide +kernel
set_option maxRecDepth 100000 in
theorem sp_okB : ∀ k, k < 45 → ∀ a, a < 8 → ∀ v, v < 8 → spB k a v = true := by decide +kernel
set_option maxRecDepth 100000 in
theorem mg_okB : ∀ k, k < 45 → ∀ a, a < 8 → ∀ d, d < 8 → mgB k a d = true := by decide +kernel
theorem tk_ok {k a v : Nat} (hk : k < 45) (ha : a < 8) (h0 : ¬ cI (posL.getD k 0) a = 0) (h1 : 1 ≤ v) (h2 : v ≤ a) : tkN (posL.getD k 0) a v < k ∧ codI (tkF (posL.getD k 0) a v) 7 = ((posL.getD (tkN (posL.getD k 0) a v) 0 : Nat) : Int) := by
  have h := tk_okB k hk a ha v (by omega)
  unfold tkB at h
  rw [Bool.or_eq_true, Bool.or_eq_true, Bool.and_eq_true] at h
  rcases h with h | h | ⟨h, h3⟩
  · exact absurd (of_decide_eq_true h) h0
  · exact absurd ⟨h1, h2⟩ (of_decide_eq_true h)
  · exact ⟨of_decide_eq_true h, of_decide_eq_true h3⟩
theorem sp_ok {k a v : Nat} (hk : k < 45) (ha : a < 8) (h0 : ¬ cI (posL.getD k 0) a = 0) (h1 : 1 ≤ v) (h2 : 2 * v ≤ a) : spN (posL.getD k 0) a v < k ∧ codI (spF (posL.getD k 0) a v) 7 = ((posL.getD (spN (posL.getD k 0) a v) 0 : Nat) : Int) := by
  have h := sp_okB k hk a ha v (by omega)
  unfold spB at h
  rw [Bool.or_eq_true, Bool.or_eq_true, Bool.and_eq_true] at h
  rcases h with h | h | ⟨h, h3⟩
  · exact absurd (of_decide_eq_true h) h0
  · exact absurd ⟨h1, h2⟩ (of_decide_eq_true h)
  · exact ⟨of_decide_eq_true h, of_decide_eq_true h3⟩
theorem mg_ok {k a d : Nat} (hk : k < 45) (ha : a < 8) (h0 : ¬ cI (posL.getD k 0) a = 0) (hd : d < 8) (h1 : ¬ c1F (posL.getD k 0) a d = 0) : (a + d - 1 < 8 ∧ mgN (posL.getD k 0) a d < k) ∧ codI (mgF (posL.getD k 0) a d) 7 = ((posL.getD (mgN (posL.getD k 0) a d) 0 : Nat) : Int) := by
  have h := mg_okB k hk a ha d hd
  unfold mgB at h
  rw [Bool.or_eq_true, Bool.or_eq_true, Bool.and_eq_true] at h
  rcases h with h | h | ⟨h, h3⟩
  · exact absurd (of_decide_eq_true h) h0
  · exact absurd (of_decide_eq_true h) h1
  · exact ⟨of_decide_eq_true h, of_decide_eq_true h3⟩
def setB (a b : List Nat) : Bool := a.all (fun x => b.contains x) && b.all (fun x => a.contains x)
def nxB (G S M k : Nat) : Bool := setB ((nxA G S M (posL.getD k 0) 7).map fun i => posL.getD i 0) ((mvL G S M (lstC (posL.getD k 0))).map fun m => codeL (apL (lstC (posL.getD k 0)) m.1 m.2.1 m.2.2)) && (decide (k = 0) == (nxA G S M (posL.getD k 0) 7).isEmpty)
set_option maxRecDepth 100000 in
theorem nx_ok : ∀ G, G < 6 → 1 ≤ G → ∀ S, S < 2 → ∀ M, M < 2 → ∀ k, k < 45 → nxB G S M k = true := by decide +kernel
theorem setB_m {a b : List Nat} (h : setB a b = true) : ∀ x, x ∈ a ↔ x ∈ b := by
  unfold setB at h
  rw [Bool.and_eq_true] at h
  intro x
  constructor
  · intro hx
    have := List.all_eq_true.mp h.1 x hx
    simpa using this
  · intro hx
    have := List.all_eq_true.mp h.2 x hx
    simpa using this
def nxV (G S M : Nat) (l : List Nat) : List VT := l.map fun i => vC G S M (posL.getD i 0)
theorem nx_val {G S M k : Nat} (hk : k < 45) (hG : 1 ≤ G ∧ G ≤ 5) (hS : S ≤ 1) (hM : M ≤ 1) : combV (nxV G S M (nxA G S M (posL.getD k 0) 7)) = vC G S M (posL.getD k 0) ∧ (k = 0 ↔ nxA G S M (posL.getD k 0) 7 = []) := by
  have h := nx_ok G (by omega) hG.1 S (by omega) M (by omega) k hk
  unfold nxB at h
  rw [Bool.and_eq_true] at h
  have hs := setB_m h.1
  have hL := posL_S hk
  refine ⟨?_, ?_⟩
  · unfold vC
    rw [val_eq (okS_H hL)]
    apply combV_set
    intro v
    unfold nxV
    rw [List.mem_map, List.mem_map]
    constructor
    · rintro ⟨i, hi, rfl⟩
      obtain ⟨m, hm, e⟩ := List.mem_map.mp ((hs _).mp (List.mem_map.mpr ⟨i, hi, rfl⟩))
      refine ⟨m, hm, ?_⟩
      rw [val_C (ap_S hL (mem_mvL.mp hm)), e]
    · rintro ⟨m, hm, rfl⟩
      obtain ⟨i, hi, e⟩ := List.mem_map.mp ((hs _).mpr (List.mem_map.mpr ⟨m, hm, rfl⟩))
      refine ⟨i, hi, ?_⟩
      rw [val_C (ap_S hL (mem_mvL.mp hm)), ← e]
  · have h2 := h.2
    rw [beq_iff_eq] at h2
    constructor
    · intro hk0
      rw [decide_eq_true hk0] at h2
      exact List.isEmpty_iff.mp h2.symm
    · intro e
      rw [e] at h2
      exact of_decide_eq_true h2
/-- what is noted of the positions behind: the numbers as bits, lost or not, the longest, the shortest -/
def acI (vs : List VT) (B : Nat) (wk lk bk : Int) : Prop := B < 2 ^ 24 ∧ (∀ x, B.testBit x = true ↔ x ∈ vs.map (fun w => w.1)) ∧ wk = ((wnL vs : Nat) : Int) ∧ lk = ((mxL vs : Nat) : Int) ∧ bk = ((min 99 (mnL vs) : Nat) : Int)
theorem acI_0 : acI [] 0 0 0 99 := ⟨by decide, fun x => by simp, rfl, rfl, rfl⟩
theorem acI_s {vs : List VT} {B : Nat} {wk lk bk : Int} (h : acI vs B wk lk bk) {v : VT} (hv : v.1 ≤ 23) : acI (vs ++ [v]) (B ||| 2 ^ v.1) (if ((v.2.1 : Nat) : Int) = 0 then 1 else wk) (if lk < ((v.2.2.1 : Nat) : Int) + 1 then ((v.2.2.1 : Nat) : Int) + 1 else lk) (if ((v.2.2.2 : Nat) : Int) + 1 < bk then ((v.2.2.2 : Nat) : Int) + 1 else bk) := by
  obtain ⟨h1, h2, h3, h4, h5⟩ := h
  refine ⟨Nat.or_lt_two_pow h1 (Nat.pow_lt_pow_right (by decide) (by omega)), fun x => ?_, ?_, ?_, ?_⟩
  · rw [List.map_append, List.mem_append, Nat.testBit_or, Bool.or_eq_true, h2, Nat.testBit_two_pow]
    simp [eq_comm]
  · rw [wnL_app, h3]
    have h01 := wnL_01 vs
    by_cases q : v.2.1 = 0
    · rw [if_pos (by omega)]
      split
      · rfl
      · first | rfl | (rw [if_pos q]; rfl)
    · rw [if_neg (by omega)]
      split
      · omega
      · first | omega | (rw [if_neg q]; omega)
  · rw [mxL_app, h4]
    split <;> omega
  · rw [mnL_app, h5]
    split <;> omega
theorem ac_b {vs : List VT} (h : ∀ v ∈ vs, v.2.2.1 ≤ 23) {B : Nat} {wk lk bk : Int} (H : acI vs B wk lk bk) : (wk = 0 ∨ wk = 1) ∧ 0 ≤ lk ∧ lk ≤ 24 ∧ 0 ≤ bk ∧ bk ≤ 99 := by
  obtain ⟨h1, h2, h3, h4, h5⟩ := H
  have h01 := wnL_01 vs
  have hm : mxL vs ≤ 24 := mxL_le fun v hv => by have := h v hv; omega
  omega
theorem ac_end {vs : List VT} {B : Nat} {wk lk bk : Int} (H : acI vs B wk lk bk) (hn : vs ≠ []) (hb : ∀ v ∈ vs, v.2.2.2 ≤ 23) : wk = (((combV vs).2.1 : Nat) : Int) ∧ lk = (((combV vs).2.2.1 : Nat) : Int) ∧ bk = (((combV vs).2.2.2 : Nat) : Int) ∧ (combV vs).1 = mexF (vs.map (fun w => w.1)) 63 0 := by
  obtain ⟨h1, h2, h3, h4, h5⟩ := H
  obtain ⟨v, l, e⟩ := List.exists_cons_of_ne_nil hn
  have hm : v ∈ vs := by rw [e]; exact List.mem_cons_self
  have a2 := mnL_le hm
  have a3 := hb v hm
  rw [combV_c hn]
  refine ⟨h3, h4, ?_, rfl⟩
  dsimp only
  omega
end LNEXT
