/-! ===== LAW, PURE: positions as codes, the order in which the law lays them ===== -/
section LPURE
def rdx (a : Nat) : Nat := if a = 1 then 8 else if a = 2 then 4 else if a = 3 then 3 else 2
theorem rdx_b (a : Nat) : 2 ≤ rdx a ∧ rdx a ≤ 8 := by
  unfold rdx
  (repeat' split) <;> omega
/-- the code of a row of numbers, from the seventh down -/
def codI (f : Nat → Int) : Nat → Int
  | 0 => 0
  | j + 1 => codI f j * ((rdx (7 - j) : Nat) : Int) + f (7 - j)
def codN (f : Nat → Nat) : Nat → Nat
  | 0 => 0
  | j + 1 => codN f j * rdx (7 - j) + f (7 - j)
theorem codI_N {f : Nat → Int} {h : Nat → Nat} (e : ∀ a, 1 ≤ a → a < 8 → f a = ((h a : Nat) : Int)) : ∀ j, j ≤ 7 → codI f j = ((codN h j : Nat) : Int)
  | 0, _ => rfl
  | j + 1, hj => by
    rw [codI, codN, codI_N e j (by omega), e (7 - j) (by omega) (by omega), Int.natCast_add, Int.natCast_mul]
/-- the numbers of a code -/
def dvN (c : Nat) : Nat → Nat
  | 0 => c
  | j + 1 => dvN c j / rdx (j + 1)
def dgN (c a : Nat) : Nat := dvN c (a - 1) % rdx a
theorem dgN_b (c a : Nat) : dgN c a ≤ 7 := by
  have h1 := rdx_b a
  have h2 := Nat.mod_lt (dvN c (a - 1)) (show rdx a > 0 by omega)
  unfold dgN
  omega
theorem dvN_le (c : Nat) : ∀ j, dvN c j ≤ c
  | 0 => Nat.le_refl _
  | j + 1 => Nat.le_trans (Nat.div_le_self _ _) (dvN_le c j)
def decP (c : Nat) (f : Nat → Int) (a : Nat) : Nat → Int := fun j => if 1 ≤ j ∧ j < a then ((dgN c j : Nat) : Int) else f j
theorem decP_1 (c : Nat) (f : Nat → Int) : decP c f 1 = f := by
  funext j
  unfold decP
  rw [if_neg (by omega)]
theorem decP_s (c : Nat) (f : Nat → Int) {a : Nat} (h : 1 ≤ a) : nup (decP c f a) a ((dgN c a : Nat) : Int) = decP c f (a + 1) := by
  funext j
  unfold nup decP
  by_cases h1 : j = a
  · subst h1
    rw [if_pos rfl, if_pos (by omega)]
  · rw [if_neg h1]
    by_cases h2 : 1 ≤ j ∧ j < a
    · rw [if_pos h2, if_pos (by omega)]
    · rw [if_neg h2, if_neg (by omega)]
def cI (c : Nat) : Nat → Int := fun a => if 1 ≤ a ∧ a < 8 then ((dgN c a : Nat) : Int) else 0
theorem cI_dec (c c0 : Nat) : decP c (cI c0) 8 = cI c := by
  funext j
  unfold decP cI
  by_cases h : 1 ≤ j ∧ j < 8
  · rw [if_pos h, if_pos h]
  · rw [if_neg h, if_neg h, if_neg h]
theorem dvN_0 : ∀ j, dvN 0 j = 0 := fun j => Nat.le_zero.mp (dvN_le 0 j)
theorem cI_0 : cI 0 = fun _ => 0 := by
  funext j
  unfold cI dgN
  rw [dvN_0, Nat.zero_mod]
  split <;> rfl
theorem cI_b (c a : Nat) : 0 ≤ cI c a ∧ cI c a ≤ 7 := by
  have h := dgN_b c a
  unfold cI
  split <;> omega
/-- heaps and stones of a code -/
def hpN (c : Nat) : Nat → Nat
  | 0 => 0
  | j + 1 => hpN c j + dgN c (j + 1)
def stN (c : Nat) : Nat → Nat
  | 0 => 0
  | j + 1 => stN c j + (j + 1) * dgN c (j + 1)
theorem hpN_b (c : Nat) : ∀ j, hpN c j ≤ 7 * j
  | 0 => Nat.le_refl _
  | j + 1 => by
    have h1 := hpN_b c j
    have h2 := dgN_b c (j + 1)
    rw [hpN]
    omega
theorem stN_b (c : Nat) : ∀ j, j ≤ 7 → stN c j ≤ 49 * j
  | 0, _ => Nat.le_refl _
  | j + 1, hj => by
    have h1 := stN_b c j (by omega)
    have h2 := Nat.mul_le_mul (show j + 1 ≤ 7 from hj) (dgN_b c (j + 1))
    rw [stN]
    omega
def hitN (s h c : Nat) : Bool := decide (stN c 7 = s ∧ hpN c 7 = h)
/-- the codes below n of s stones in h heaps; of s stones, most heaps ahead; of fewer than s stones -/
def cL (s h n : Nat) : List Nat := (List.range n).filter (fun c => hitN s h c)
theorem cL_s (s h n : Nat) : cL s h (n + 1) = cL s h n ++ (if stN n 7 = s ∧ hpN n 7 = h then [n] else []) := by
  unfold cL
  rw [List.range_succ, List.filter_append]
  congr 1
  by_cases q : stN n 7 = s ∧ hpN n 7 = h
  · rw [if_pos q]
    simp only [List.filter_cons, List.filter_nil, hitN, q, decide_true, if_true, and_self]
  · rw [if_neg q]
    simp only [List.filter_cons, List.filter_nil, hitN, q, decide_false]
    rfl
def cH (s : Nat) : Nat → List Nat
  | 0 => []
  | j + 1 => cH s j ++ cL s (s - j) 1536
def cS : Nat → List Nat
  | 0 => []
  | s + 1 => cS s ++ cH s (s + 1)
def smL : List Nat := [0, 1, 2, 3, 4, 5, 6, 7, 8, 9, 10, 11, 12, 13, 16, 17, 18, 19, 24, 25, 32, 33, 34, 35, 36, 40, 41, 42, 48, 64, 65, 96, 97, 98, 99, 104, 105, 128, 192, 193, 194, 200, 384, 385, 768]
def posL : List Nat := [0, 1, 2, 8, 3, 9, 32, 4, 10, 16, 33, 96, 5, 11, 17, 34, 40, 97, 192, 6, 12, 18, 35, 24, 41, 98, 64, 104, 193, 384, 7, 13, 19, 36, 25, 42, 99, 48, 65, 105, 194, 128, 200, 385, 768]
set_option maxRecDepth 100000 in
theorem smL_all : (List.range 1536).filter (fun c => Nat.ble (stN c 7) 7) = smL := by decide +kernel
theorem cL_all {s : Nat} (h : Nat) (hs : s ≤ 7) : cL s h 1536 = smL.filter (fun c => hitN s h c) := by
  rw [← smL_all, List.filter_filter]
  unfold cL
  apply List.filter_congr
  intro c _
  by_cases q : stN c 7 = s ∧ hpN c 7 = h
  · have e : Nat.ble (stN c 7) 7 = true := Nat.ble_eq.mpr (by omega)
    rw [e, Bool.and_true]
  · have e : hitN s h c = false := decide_eq_false q
    rw [e, Bool.false_and]
def cH2 (s : Nat) : Nat → List Nat
  | 0 => []
  | j + 1 => cH2 s j ++ smL.filter (fun c => hitN s (s - j) c)
def cS2 : Nat → List Nat
  | 0 => []
  | s + 1 => cS2 s ++ cH2 s (s + 1)
theorem cH_2 {s : Nat} (hs : s ≤ 7) : ∀ j, cH s j = cH2 s j
  | 0 => rfl
  | j + 1 => by rw [cH, cH2, cH_2 hs j, cL_all (s - j) hs]
theorem cS_2 : ∀ s, s ≤ 8 → cS s = cS2 s
  | 0, _ => rfl
  | s + 1, h => by rw [cS, cS2, cS_2 s (by omega), cH_2 (by omega)]
set_option maxRecDepth 100000 in
theorem cS2_8 : cS2 8 = posL := by decide +kernel
theorem cS_8 : cS 8 = posL := (cS_2 8 (by decide)).trans cS2_8
theorem pf_tr {α : Type} {a b c : List α} (h : ∃ t, a ++ t = b) (h2 : ∃ t, b ++ t = c) : ∃ t, a ++ t = c := by
  obtain ⟨t, rfl⟩ := h
  obtain ⟨u, rfl⟩ := h2
  exact ⟨t ++ u, by rw [List.append_assoc]⟩
theorem pf_l {α : Type} {a b : List α} (l : List α) (h : ∃ t, a ++ t = b) : ∃ t, (l ++ a) ++ t = l ++ b := by
  obtain ⟨t, rfl⟩ := h
  exact ⟨t, by rw [List.append_assoc]⟩
theorem cL_pf (s h : Nat) {n m : Nat} (hn : n ≤ m) : ∃ t, cL s h n ++ t = cL s h m := by
  induction m with
  | zero => rw [show n = 0 by omega]; exact ⟨[], List.append_nil _⟩
  | succ m ih =>
    by_cases q : n = m + 1
    · rw [q]; exact ⟨[], List.append_nil _⟩
    · exact pf_tr (ih (by omega)) ⟨_, (cL_s s h m).symm⟩
theorem cH_pf (s : Nat) {n m : Nat} (hn : n ≤ m) : ∃ t, cH s n ++ t = cH s m := by
  induction m with
  | zero => rw [show n = 0 by omega]; exact ⟨[], List.append_nil _⟩
  | succ m ih =>
    by_cases q : n = m + 1
    · rw [q]; exact ⟨[], List.append_nil _⟩
    · exact pf_tr (ih (by omega)) ⟨_, rfl⟩
theorem cS_pf {n m : Nat} (hn : n ≤ m) : ∃ t, cS n ++ t = cS m := by
  induction m with
  | zero => rw [show n = 0 by omega]; exact ⟨[], List.append_nil _⟩
  | succ m ih =>
    by_cases q : n = m + 1
    · rw [q]; exact ⟨[], List.append_nil _⟩
    · exact pf_tr (ih (by omega)) ⟨_, rfl⟩
theorem lay_len {s j n : Nat} (hs : s < 8) (hj : j ≤ s) (hn : n ≤ 1536) : (cS s ++ (cH s j ++ cL s (s - j) n)).length ≤ 45 := by
  have h1 : ∃ t, (cS s ++ (cH s j ++ cL s (s - j) n)) ++ t = cS 8 :=
    pf_tr (pf_l _ (pf_tr (pf_l _ (cL_pf s (s - j) hn)) (cH_pf s (show j + 1 ≤ s + 1 by omega)))) (cS_pf (show s + 1 ≤ 8 by omega))
  obtain ⟨t, e⟩ := h1
  have e2 := congrArg List.length e
  rw [cS_8, List.length_append] at e2
  have e3 : posL.length = 45 := rfl
  omega
/-- the law's table: the codes, and how many at the place 63 -/
def tabF (l : List Nat) : Nat → Int := fun k => if k = 63 then ((l.length : Nat) : Int) else ((l.getD k 0 : Nat) : Int)
theorem tabF_0 : nup (fun _ => 0) 63 0 = tabF [] := by
  funext k
  unfold nup tabF
  by_cases h : k = 63
  · rw [if_pos h, if_pos h]; rfl
  · rw [if_neg h, if_neg h]; rfl
theorem tabF_63 (l : List Nat) : tabF l 63 = ((l.length : Nat) : Int) := if_pos rfl
theorem tabF_s {l : List Nat} (c : Nat) (h : l.length < 63) : nup (nup (tabF l) l.length ((c : Nat) : Int)) 63 (((l.length : Nat) : Int) + 1) = tabF (l ++ [c]) := by
  funext k
  unfold nup tabF
  by_cases h1 : k = 63
  · rw [if_pos h1, if_pos h1, List.length_append]
    show ((l.length : Nat) : Int) + 1 = ((l.length + 1 : Nat) : Int)
    omega
  · rw [if_neg h1, if_neg h1]
    by_cases h2 : k = l.length
    · rw [if_pos h2, if_neg h1, h2, getD_app_r]
    · rw [if_neg h2, if_neg h1]
      by_cases h3 : k < l.length
      · rw [getD_app_l h3]
      · rw [List.getD_eq_getElem?_getD, List.getD_eq_getElem?_getD, List.getElem?_eq_none (by omega), List.getElem?_eq_none (by rw [List.length_append]; show l.length + 1 ≤ k; omega)]
def posW (t : NF) : Prop := (∀ k, k < 45 → t k = ((posL.getD k 0 : Nat) : Int)) ∧ t 63 = 45
theorem posW_F : posW (tabF posL) := ⟨fun k hk => if_neg (by omega), if_pos rfl⟩
theorem posL_nd : ∀ i, i < 45 → ∀ j, j < 45 → posL.getD i 0 = posL.getD j 0 → i = j := by decide +kernel
theorem posL_lt : ∀ i, i < 45 → posL.getD i 0 < 1536 := by decide +kernel
theorem posL_0 : ∀ i, i < 45 → (posL.getD i 0 = 0 ↔ i = 0) := by decide +kernel
/-- heaps as a code, a code as heaps -/
def codeL (L : List Nat) : Nat := codN (fun a => L.count a) 7
theorem codeL_perm {L L' : List Nat} (h : L.Perm L') : codeL L = codeL L' := by
  unfold codeL
  congr 1
  funext a
  exact h.count_eq a
def lstC (c : Nat) : List Nat := List.replicate (dgN c 7) 7 ++ (List.replicate (dgN c 6) 6 ++ (List.replicate (dgN c 5) 5 ++ (List.replicate (dgN c 4) 4 ++ (List.replicate (dgN c 3) 3 ++ (List.replicate (dgN c 2) 2 ++ List.replicate (dgN c 1) 1)))))
def okS (L : List Nat) : Prop := (∀ x ∈ L, 1 ≤ x) ∧ sm L ≤ 7
theorem okS_H {L : List Nat} (h : okS L) : okH L := ⟨h.1, by have := h.2; omega⟩
theorem allS : ∀ n, n < 8 → (parts 7 n 7).all (fun p => posL.contains (codeL p) && decide (lstC (codeL p) = p)) = true := by decide +kernel
theorem okS_c {L : List Nat} (h : okS L) : codeL L ∈ posL ∧ (lstC (codeL L)).Perm L := by
  have p := sortL_perm L
  have e := sm_perm p
  have h2 := h.2
  have hm : sortL L ∈ parts 7 (sm (sortL L)) 7 := by
    refine parts_all 7 (sortL L) 7 (sortL_desc L) (fun x hx => ?_) (by omega)
    have hx2 := p.mem_iff.mp hx
    have := sm_mem hx2
    exact ⟨h.1 x hx2, by omega⟩
  have h3 := List.all_eq_true.mp (allS (sm (sortL L)) (by omega)) _ hm
  rw [Bool.and_eq_true] at h3
  obtain ⟨h4, h5⟩ := h3
  have h6 := of_decide_eq_true h5
  have e2 := codeL_perm p
  rw [e2] at h4 h6
  refine ⟨by simpa using h4, ?_⟩
  rw [h6]
  exact p
theorem okS_i {L : List Nat} (h : okS L) : ∃ i, i < 45 ∧ posL.getD i 0 = codeL L := mem_at (okS_c h).1
theorem posL_ok : posL.all (fun c => decide (sm (lstC c) ≤ 7) && (lstC c).all (fun x => decide (1 ≤ x))) = true := by decide +kernel
theorem posL_S {k : Nat} (hk : k < 45) : okS (lstC (posL.getD k 0)) := by
  have h := List.all_eq_true.mp posL_ok _ (getD_mem (L := posL) (i := k) hk)
  rw [Bool.and_eq_true] at h
  exact ⟨fun x hx => of_decide_eq_true (List.all_eq_true.mp h.2 x hx), of_decide_eq_true h.1⟩
/-- what a code is worth -/
def vC (G S M c : Nat) : VT := val G S M (lstC c)
theorem val_C {G S M : Nat} {L : List Nat} (h : okS L) : val G S M L = vC G S M (codeL L) := (val_perm (okS_c h).2).symm
theorem ap_S {G S M : Nat} {L : List Nat} {m : Mv} (h : okS L) (hm : okM G S M L m) : okS (apL L m.1 m.2.1 m.2.2) := by
  obtain ⟨h1, -, h2⟩ := ap_ok (okS_H h) hm
  have h3 := h.2
  exact ⟨h1.1, by omega⟩
theorem vC_b {G S M k : Nat} (hk : k < 45) : (vC G S M (posL.getD k 0)).1 ≤ 23 ∧ (vC G S M (posL.getD k 0)).2.1 ≤ 1 ∧ (vC G S M (posL.getD k 0)).2.2.1 ≤ 23 ∧ (vC G S M (posL.getD k 0)).2.2.2 ≤ 23 := val_b (okS_H (posL_S hk))
end LPURE
