/-! ===== the model: positions ===== -/
section X7C
def bhR (f : NF) (L : List Nat) : Prop := ∀ k, k < 12 → f k = ((L.getD k 0 : Nat) : Int)
theorem bhR_rep {f : NF} {L : List Nat} (h : bhR f L) (hl : L.length ≤ 12) : rep f L := fun i hi => h i (by omega)
def posR (T : TT) : Prop := (∀ p, p < 272 → ∀ k, k < 12 → T.1 (12 * p + k) = (((posT.getD p []).getD k 0 : Nat) : Int)) ∧ (∀ n, n < 13 → T.2.1 n = ((bgT n : Nat) : Int)) ∧ T.2.2.1 = 272
theorem memT {p : Nat} (h : p < 272) : posT.getD p [] ∈ posT := by
  have h2 : p < posT.length := by rw [posT_len]; exact h
  rw [List.getD_eq_getElem?_getD, List.getElem?_eq_getElem h2]
  exact List.getElem_mem h2
theorem posT_H {p : Nat} (h : p < 272) : okH (posT.getD p []) := by
  have h2 := List.all_eq_true.mp posT_ok _ (memT h)
  rw [Bool.and_eq_true] at h2
  refine ⟨fun x hx => ?_, of_decide_eq_true h2.2⟩
  have h3 := h2.1
  unfold okB at h3
  rw [Bool.and_eq_true] at h3
  exact of_decide_eq_true (List.all_eq_true.mp h3.2 x hx)
theorem pos_find {L : List Nat} (h : okH L) : ∃ q, bgT (sm L) ≤ q ∧ q < 272 ∧ posT.getD q [] = sortL L := by
  have h2 := h.2
  have h3 := List.all_eq_true.mp (posT_all (sm L) (by omega)) _ (parts_ok h)
  have h4 : sortL L ∈ posT.drop (bgT (sm L)) := by simpa using h3
  obtain ⟨i, hi, e⟩ := List.getElem_of_mem h4
  rw [List.length_drop, posT_len] at hi
  refine ⟨bgT (sm L) + i, by omega, by omega, ?_⟩
  rw [List.getElem_drop] at e
  rw [List.getD_eq_getElem?_getD, List.getElem?_eq_getElem (by rw [posT_len]; omega)]
  exact e
/-- the first n places of two rows are equal: 1, or 0 -/
def eqN (P Q : List Nat) : Nat → Nat
  | 0 => 1
  | n + 1 => if eqN P Q n = 1 then (if P.getD n 0 = Q.getD n 0 then 1 else 0) else 0
theorem eqN_01 (P Q : List Nat) : ∀ n, eqN P Q n = 0 ∨ eqN P Q n = 1
  | 0 => Or.inr rfl
  | n + 1 => by
    rw [eqN]
    split
    · split
      · exact Or.inr rfl
      · exact Or.inl rfl
    · exact Or.inl rfl
theorem eqN_1 {P Q : List Nat} : ∀ {n : Nat}, eqN P Q n = 1 ↔ ∀ k, k < n → P.getD k 0 = Q.getD k 0
  | 0 => ⟨fun _ k hk => absurd hk (Nat.not_lt_zero k), fun _ => rfl⟩
  | n + 1 => by
    have ih := eqN_1 (P := P) (Q := Q) (n := n)
    rw [eqN]
    constructor
    · intro h k hk
      by_cases q : eqN P Q n = 1
      · rw [if_pos q] at h
        by_cases w : k = n
        · subst w
          by_cases v : P.getD k 0 = Q.getD k 0
          · exact v
          · rw [if_neg v] at h
            exact absurd h (by decide)
        · exact ih.mp q k (by omega)
      · rw [if_neg q] at h
        exact absurd h (by decide)
    · intro h
      rw [if_pos (ih.mpr (fun k hk => h k (by omega))), if_pos (h n (by omega))]
theorem row_one : ∀ {P Q : List Nat}, (∀ x ∈ P, 1 ≤ x) → (∀ x ∈ Q, 1 ≤ x) → (∀ k, k < max P.length Q.length → P.getD k 0 = Q.getD k 0) → P = Q
  | [], [], _, _, _ => rfl
  | x :: P, [], hp, _, h => by
    have h1 := hp x List.mem_cons_self
    have h2 : x = 0 := h 0 (by show 0 < max (P.length + 1) 0; omega)
    omega
  | [], y :: Q, _, hq, h => by
    have h1 := hq y List.mem_cons_self
    have h2 : 0 = y := h 0 (by show 0 < max 0 (Q.length + 1); omega)
    omega
  | x :: P, y :: Q, hp, hq, h => by
    have h2 : x = y := h 0 (by show 0 < max (P.length + 1) (Q.length + 1); omega)
    rw [h2, row_one (P := P) (Q := Q) (fun z hz => hp z (List.mem_cons_of_mem _ hz)) (fun z hz => hq z (List.mem_cons_of_mem _ hz)) (fun k hk => h (k + 1) (by show k + 1 < max (P.length + 1) (Q.length + 1); omega))]
theorem eqN_eq {P Q : List Nat} (hp : okH P) (hq : okH Q) (h : eqN P Q 12 = 1) : P = Q := by
  have h1 := okH_len hp
  have h2 := okH_len hq
  exact row_one hp.1 hq.1 (fun k hk => eqN_1.mp h k (by omega))
theorem eqN_rfl (P : List Nat) : eqN P P 12 = 1 := eqN_1.mpr (fun _ _ => rfl)
theorem sortL_len (L : List Nat) : (sortL L).length = L.length := (sortL_perm L).length_eq
theorem sortL_H {L : List Nat} (h : okH L) : okH (sortL L) := okH_perm (sortL_perm L).symm h
/-- the first k heaps in order -/
def srt (L : List Nat) : Nat → List Nat
  | 0 => []
  | k + 1 => insD (L.getD k 0) (srt L k)
theorem srt_desc (L : List Nat) : ∀ k, desc (srt L k)
  | 0 => trivial
  | k + 1 => insD_desc (srt_desc L k)
theorem srt_perm (L : List Nat) : ∀ k, k ≤ L.length → (srt L k).Perm (L.take k)
  | 0, _ => List.Perm.refl _
  | k + 1, h => by
    rw [srt, take_s 0 (show k < L.length by omega)]
    refine (insD_perm _ _).trans (((srt_perm L k (by omega)).cons _).trans ?_)
    exact (List.perm_append_comm (l₁ := L.take k) (l₂ := [L.getD k 0])).symm
theorem srt_all (L : List Nat) : srt L L.length = sortL L := by
  refine desc_one (srt_desc L _) (sortL_desc L) ?_
  have h := srt_perm L L.length (Nat.le_refl _)
  rw [List.take_length] at h
  exact h.trans (sortL_perm L).symm
theorem srt_len (L : List Nat) {k : Nat} (h : k ≤ L.length) : (srt L k).length = k := by
  rw [(srt_perm L k h).length_eq, List.length_take]; omega
theorem insD_at {v : Nat} : ∀ {D : List Nat} {p : Nat}, p ≤ D.length → (∀ j, j < p → v ≤ D.getD j 0) → (∀ j, p ≤ j → j < D.length → D.getD j 0 < v) → ∀ j, (insD v D).getD j 0 = if j < p then D.getD j 0 else if j = p then v else D.getD (j - 1) 0
  | [], 0, _, _, _, j => by
    rw [if_neg (Nat.not_lt_zero j)]
    match j with
    | 0 => rfl
    | j + 1 => rw [if_neg (by omega)]; rfl
  | [], p + 1, h, _, _, _ => absurd h (Nat.not_succ_le_zero p)
  | y :: l, 0, _, _, h3, j => by
    have h4 : y < v := h3 0 (Nat.le_refl 0) (Nat.succ_pos _)
    rw [insD, if_pos h4, if_neg (Nat.not_lt_zero j)]
    match j with
    | 0 => rfl
    | j + 1 => rw [if_neg (by omega)]; rfl
  | y :: l, p + 1, h, h2, h3, j => by
    have h4 : v ≤ y := h2 0 (Nat.succ_pos p)
    rw [insD, if_neg (by omega)]
    match j with
    | 0 => rw [if_pos (Nat.succ_pos p)]; rfl
    | j + 1 =>
      have ih := insD_at (v := v) (D := l) (p := p) (Nat.le_of_succ_le_succ h) (fun i hi => h2 (i + 1) (Nat.succ_lt_succ hi)) (fun i hi hl => h3 (i + 1) (Nat.succ_le_succ hi) (Nat.succ_lt_succ hl)) j
      show (insD v l).getD j 0 = _
      rw [ih]
      by_cases w1 : j < p
      · rw [if_pos w1, if_pos (by omega)]; rfl
      · rw [if_neg w1, if_neg (show ¬ j + 1 < p + 1 by omega)]
        by_cases w2 : j = p
        · rw [if_pos w2, if_pos (by omega)]
        · rw [if_neg w2, if_neg (by omega)]
          obtain ⟨i, rfl⟩ : ∃ i, j = i + 1 := ⟨j - 1, by omega⟩
          rfl
theorem insD_len (v : Nat) (D : List Nat) : (insD v D).length = D.length + 1 := (insD_perm v D).length_eq
theorem desc_at : ∀ {D : List Nat} {i j : Nat}, desc D → i ≤ j → j < D.length → D.getD j 0 ≤ D.getD i 0
  | [], _, _, _, _, h => absurd h (Nat.not_lt_zero _)
  | x :: l, 0, 0, _, _, _ => Nat.le_refl _
  | x :: l, 0, j + 1, hd, _, h => hd.1 _ (getD_mem (Nat.lt_of_succ_lt_succ h))
  | x :: l, i + 1, 0, _, h, _ => absurd h (Nat.not_succ_le_zero i)
  | x :: l, i + 1, j + 1, hd, h, h2 => desc_at (D := l) hd.2 (Nat.le_of_succ_le_succ h) (Nat.lt_of_succ_lt_succ h2)
theorem ins_fin {L : List Nat} {k p : Nat} {f : NF} (hk : k < L.length) (hp : p ≤ k) (h1 : ∀ j, j < p → f j = (((srt L k).getD j 0 : Nat) : Int)) (h2 : ∀ j, p < j → j ≤ k → f j = (((srt L k).getD (j - 1) 0 : Nat) : Int)) (h3 : ∀ j, p ≤ j → j < k → (srt L k).getD j 0 < L.getD k 0) (h4 : p = 0 ∨ L.getD k 0 ≤ (srt L k).getD (p - 1) 0) : rep (nup f p ((L.getD k 0 : Nat) : Int)) (srt L (k + 1)) := by
  have hl := srt_len L (k := k) (by omega)
  intro i hi
  rw [srt, insD_len, hl] at hi
  rw [srt, insD_at (p := p) (by omega) (fun j hj => ?_) (fun j hj hj2 => h3 j hj (by omega))]
  · by_cases w : i < p
    · rw [if_pos w, nup_n _ _ (by omega)]
      exact h1 i w
    · rw [if_neg w]
      by_cases w2 : i = p
      · rw [if_pos w2, w2, nup_s]
      · rw [if_neg w2, nup_n _ _ w2]
        exact h2 i (by omega) (by omega)
  · rcases h4 with h4 | h4
    · omega
    · have := desc_at (srt_desc L k) (show j ≤ p - 1 by omega) (by omega)
      omega

theorem okH_at9 {L : List Nat} (h : okH L) (i : Nat) : L.getD i 0 ≤ 12 := by
  by_cases w : i < L.length
  · exact (okH_at h w).2
  · rw [List.getD_eq_getElem?_getD, List.getElem?_eq_none (by omega)]
    exact Nat.zero_le _
theorem smT_le (L : List Nat) : ∀ k, smT L k ≤ sm L := by
  intro k
  by_cases w : k ≤ L.length
  · have key : ∀ n, smT L k ≤ smT L (k + n) := by
      intro n
      induction n with
      | zero => exact Nat.le_refl _
      | succ n ih => exact Nat.le_trans ih (by show smT L (k + n) ≤ smT L (k + n) + L.getD (k + n) 0; omega)
    have h := key (L.length - k)
    rw [show k + (L.length - k) = L.length by omega, smT_all] at h
    exact h
  · have key : ∀ n, smT L (L.length + n) = smT L L.length := by
      intro n
      induction n with
      | zero => rfl
      | succ n ih =>
        show smT L (L.length + n) + L.getD (L.length + n) 0 = _
        rw [ih, List.getD_eq_getElem?_getD, List.getElem?_eq_none (by omega)]
        rfl
    have h := key (k - L.length)
    rw [show L.length + (k - L.length) = k by omega, smT_all] at h
    omega
theorem desc_le12 {L : List Nat} (h : okH L) {k : Nat} (hk : k ≤ L.length) (i : Nat) : (srt L k).getD i 0 ≤ 12 := by
  by_cases w : i < (srt L k).length
  · have h1 := (srt_perm L k hk).mem_iff.mp (getD_mem w)
    have h2 := sm_mem (List.mem_of_mem_take h1)
    have h3 := h.2
    omega
  · rw [List.getD_eq_getElem?_getD, List.getElem?_eq_none (by omega)]
    exact Nat.zero_le _
theorem bhR_of {f : NF} {L : List Nat} (h : rep f L) (h2 : ∀ j, L.length ≤ j → j < 12 → f j = 0) : bhR f L := by
  intro k hk
  by_cases w : k < L.length
  · exact h k w
  · rw [h2 k (by omega) hk, List.getD_eq_getElem?_getD, List.getElem?_eq_none (by omega)]
    rfl

set_option maxHeartbeats 1000000 in
set_option maxRecDepth 100000 in
theorem c_X7_isBehind {l : Launch} (hfl : l.flags = flags0) (D : va_G) (g : GT) (z : ZT) (ad : Nat → Nat) (th : Int) (cC : CT) (cT : TT) (cL : LT) (cP : PT) (po : Nat) (Qs : List Nat) (hp : po < 272) (hP : posR cT) (hb : bhR cL.2.2.2.2.2.2.1 Qs) (hQ : okH Qs) : CI l yX7_isBehind wsX7_isBehind 1 23 1 D g z [.ref (ad 0), .int (iI (po : Int))] (moC g ad th cC cT cL cP) (fun (r9 : Int32) (u9 : Unit) => r9 = iI ((eqN (posT.getD po []) Qs 12 : Nat) : Int)) (fun (u9 : Unit) => moC g ad th cC cT cL cP) 0 0 := by
  refine CI_of hfl (own := RX7) ⟨0, 0, 0, 0⟩ 1 23 1 (by decide +kernel) rfl rfl ⟨by decide, by decide, by decide +kernel⟩ ⟨by decide, by decide⟩ (le_ble rfl) (fun _ _ h => nar_01 h (by have := eqN_01 (posT.getD po []) Qs 12; omega)) ?_
  intro p e s m below meth c A Q F ret
  change J p l e _ s m _ below meth c A D _ Q 0 0 (moC g ad th cC cT cL cP) [(0, .ref (ad 0)), (1, .int (iI (po : Int)))] [] 0
  refine j_iconst F dX7_isBehind_0 ?_
  refine j_istore_n F (lv' := [(2, .int (iI 1)), (0, .ref (ad 0)), (1, .int (iI (po : Int)))]) dX7_isBehind_1 rfl (by decide) rfl ?_
  refine j_iconst F dX7_isBehind_2 ?_
  refine j_istore_n F (lv' := [(3, .int (iI 0)), (2, .int (iI 1)), (0, .ref (ad 0)), (1, .int (iI (po : Int)))]) dX7_isBehind_3 rfl (by decide) rfl ?_
  refine J.loc [0, 1, 2, 3] rfl ?_
  refine J_loop (σ := Nat) (fun k : Nat => k ≤ 12) (fun k : Nat => 12 - k) (fun k : Nat => moC g ad th cC cT cL cP) (fun k : Nat => [(3, .int (iI (k : Int))), (2, .int (iI (((eqN (posT.getD po []) Qs k) : Nat) : Int))), (0, .ref (ad 0)), (1, .int (iI (po : Int)))]) (0) (by show 0 ≤ 12; exact Nat.zero_le _) ?_
  rintro k hI ih4
  have hI : k ≤ 12 := hI
  refine j_iload_n F dX7_isBehind_4 rfl 0 rfl ?_
  refine j_bipush F dX7_isBehind_5 (by decide) ?_
  refine j_icmp_ge F (tgt := 46) dX7_isBehind_7 (by decide) ⟨(by unfold rg; omega), (by unfold rg; omega)⟩ (fun c7 => ?_) (fun c7 => ?_)
  · have ek : k = 12 := by omega
    subst ek
    refine j_iload_n F dX7_isBehind_46 rfl 1 rfl ?_
    exact ret _ () 0 0 _ _ dX7_isBehind_47 (by decide) (by decide) rfl
  · have e1 := hP.1 po hp k (by omega)
    have e2 := hb k (by omega)
    have e3 := okH_at9 (posT_H hp) k
    have e4 := okH_at9 hQ k
    have e5 := eqN_01 (posT.getD po []) Qs k
    refine j_iload_n F dX7_isBehind_10 rfl 1 rfl ?_
    refine j_if_eq F (tgt := 38) dX7_isBehind_11 (by decide) (by unfold rg; omega) (fun c11 => ?_) (fun c11 => ?_)
    · refine j_iconst F dX7_isBehind_38 ?_
      refine j_istore_n F (lv' := [(2, .int (iI 0)), (3, .int (iI (k : Int))), (0, .ref (ad 0)), (1, .int (iI (po : Int)))]) dX7_isBehind_39 rfl (by decide) rfl ?_
      have eA : eqN (posT.getD po []) Qs (k + 1) = 0 := by rw [eqN, if_neg (by omega)]
      refine J.lvEq (lv2 := [(2, .int (iI (((eqN (posT.getD po []) Qs (k + 1)) : Nat) : Int))), (3, .int (iI (k : Int))), (0, .ref (ad 0)), (1, .int (iI (po : Int)))]) (by rw [eA]; rfl) ?_
      refine j_iinc F (lv' := [(3, .int (iI ((k : Int) + 1))), (2, .int (iI (((eqN (posT.getD po []) Qs (k + 1)) : Nat) : Int))), (0, .ref (ad 0)), (1, .int (iI (po : Int)))]) dX7_isBehind_40 1 rfl (by decide) rfl ?_
      refine j_goto F (tgt := 4) dX7_isBehind_43 (by decide) ?_
      refine J.loc [0, 1, 2, 3] rfl ?_
      exact ih4 (k + 1) (by show (k + 1) ≤ 12; omega) (by show 12 - (k + 1) < 12 - k; omega)
    · refine j_aload_n F dX7_isBehind_14 rfl 2 rfl ?_
      refine j_getf F (ref := "CairnGameModel") (C := RX7) (T := TX7) (N := 27) (ci := 7) (index := 19) (v := .ref (ad 6)) (fun w h => (List.mem_cons_of_mem _ (List.mem_append_right _ h))) 0 rfl rfl 6 (by decide) (List.mem_cons_of_mem _ (List.mem_append_left _ (List.mem_of_getElem? (i := 0) rfl))) rfl rfl dX7_isBehind_15 ?_
      refine j_bipush F dX7_isBehind_18 (by decide) ?_
      refine j_iload_n F dX7_isBehind_20 rfl 3 rfl ?_
      refine j_imul F dX7_isBehind_21 ?_
      refine j_iload_n F dX7_isBehind_22 rfl 0 rfl ?_
      refine j_iadd F dX7_isBehind_23 ?_
      refine j_iald F 4 (n := 3264) (f := cT.1) rfl (12 * po + k) (by omega) (by omega) (by decide) dX7_isBehind_24 ?_
      refine J.top (congrArg iI (show cT.1 (12 * po + k) = ((((posT.getD po []).getD k 0) : Nat) : Int) from e1)) ?_
      refine j_aload_n F dX7_isBehind_25 rfl 2 rfl ?_
      refine j_getf F (ref := "CairnGameModel") (C := RX7) (T := TX7) (N := 27) (ci := 7) (index := 49) (v := .ref (ad 20)) (fun w h => (List.mem_cons_of_mem _ (List.mem_append_right _ h))) 0 rfl rfl 20 (by decide) (List.mem_cons_of_mem _ (List.mem_append_left _ (List.mem_of_getElem? (i := 1) rfl))) rfl rfl dX7_isBehind_26 ?_
      refine j_iload_n F dX7_isBehind_29 rfl 0 rfl ?_
      refine j_iald F 14 (n := 13) (f := cL.2.2.2.2.2.2.1) rfl k (rfl) (by omega) (by decide) dX7_isBehind_30 ?_
      refine J.top (congrArg iI (show cL.2.2.2.2.2.2.1 k = (((Qs.getD k 0) : Nat) : Int) from e2)) ?_
      refine j_icmp_ne F (tgt := 38) dX7_isBehind_31 (by decide) ⟨(by unfold rg; omega), (by unfold rg; omega)⟩ (fun c31 => ?_) (fun c31 => ?_)
      · refine j_iconst F dX7_isBehind_38 ?_
        refine j_istore_n F (lv' := [(2, .int (iI 0)), (3, .int (iI (k : Int))), (0, .ref (ad 0)), (1, .int (iI (po : Int)))]) dX7_isBehind_39 rfl (by decide) rfl ?_
        have eA : eqN (posT.getD po []) Qs (k + 1) = 0 := by rw [eqN, if_pos (by omega), if_neg (by omega)]
        refine J.lvEq (lv2 := [(2, .int (iI (((eqN (posT.getD po []) Qs (k + 1)) : Nat) : Int))), (3, .int (iI (k : Int))), (0, .ref (ad 0)), (1, .int (iI (po : Int)))]) (by rw [eA]; rfl) ?_
        refine j_iinc F (lv' := [(3, .int (iI ((k : Int) + 1))), (2, .int (iI (((eqN (posT.getD po []) Qs (k + 1)) : Nat) : Int))), (0, .ref (ad 0)), (1, .int (iI (po : Int)))]) dX7_isBehind_40 1 rfl (by decide) rfl ?_
        refine j_goto F (tgt := 4) dX7_isBehind_43 (by decide) ?_
        refine J.loc [0, 1, 2, 3] rfl ?_
        exact ih4 (k + 1) (by show (k + 1) ≤ 12; omega) (by show 12 - (k + 1) < 12 - k; omega)
      · refine j_iconst F dX7_isBehind_34 ?_
        refine j_goto F (tgt := 39) dX7_isBehind_35 (by decide) ?_
        refine j_istore_n F (lv' := [(2, .int (iI 1)), (3, .int (iI (k : Int))), (0, .ref (ad 0)), (1, .int (iI (po : Int)))]) dX7_isBehind_39 rfl (by decide) rfl ?_
        have eA : eqN (posT.getD po []) Qs (k + 1) = 1 := by rw [eqN, if_pos (by omega), if_pos (by omega)]
        refine J.lvEq (lv2 := [(2, .int (iI (((eqN (posT.getD po []) Qs (k + 1)) : Nat) : Int))), (3, .int (iI (k : Int))), (0, .ref (ad 0)), (1, .int (iI (po : Int)))]) (by rw [eA]; rfl) ?_
        refine j_iinc F (lv' := [(3, .int (iI ((k : Int) + 1))), (2, .int (iI (((eqN (posT.getD po []) Qs (k + 1)) : Nat) : Int))), (0, .ref (ad 0)), (1, .int (iI (po : Int)))]) dX7_isBehind_40 1 rfl (by decide) rfl ?_
        refine j_goto F (tgt := 4) dX7_isBehind_43 (by decide) ?_
        refine J.loc [0, 1, 2, 3] rfl ?_
        exact ih4 (k + 1) (by show (k + 1) ≤ 12; omega) (by show 12 - (k + 1) < 12 - k; omega)

set_option maxHeartbeats 1000000 in
set_option maxRecDepth 100000 in
theorem c_X7_position {l : Launch} (hfl : l.flags = flags0) (D : va_G) (g : GT) (z : ZT) (ad : Nat → Nat) (th : Int) (cC : CT) (cT : TT) (cL : LT) (cP : PT) (L : List Nat) (hL : okH L) (hP : posR cT) (hr : rep cL.2.2.2.2.2.2.1 L) : CI l yX7_position wsX7_position 2 47 0 D g z [.ref (ad 0)] (moC g ad th cC cT (cL.1, cL.2.1, cL.2.2.1, cL.2.2.2.1, cL.2.2.2.2.1, cL.2.2.2.2.2.1, cL.2.2.2.2.2.2.1, ((L.length : Nat) : Int)) cP) (fun (r9 : Int32) (u9 : NF × Nat) => r9 = iI ((u9.2 : Nat) : Int) ∧ u9.2 < 272 ∧ posT.getD u9.2 [] = sortL L ∧ bhR u9.1 (sortL L)) (fun (u9 : NF × Nat) => moC g ad th cC cT (cL.1, cL.2.1, cL.2.2.1, cL.2.2.2.1, cL.2.2.2.2.1, cL.2.2.2.2.2.1, u9.1, ((L.length : Nat) : Int)) cP) 0 0 := by
  refine CI_of hfl (own := RX7) ⟨1, 0, 0, 23⟩ 2 47 0 (by decide +kernel) rfl rfl ⟨by decide, by decide, by decide +kernel⟩ ⟨by decide, by decide⟩ (le_ble rfl) (fun _ _ _ => rfl) ?_
  intro p e s m below meth c A Q F ret
  change J p l e _ s m _ below meth c A D _ Q 0 0 (moC g ad th cC cT (cL.1, cL.2.1, cL.2.2.1, cL.2.2.2.1, cL.2.2.2.2.1, cL.2.2.2.2.2.1, cL.2.2.2.2.2.2.1, ((L.length : Nat) : Int)) cP) [(0, .ref (ad 0))] [] 0
  have hlen := okH_len hL
  refine j_iconst F dX7_position_0 ?_
  refine j_istore_n F (lv' := [(1, .int (iI 0)), (0, .ref (ad 0))]) dX7_position_1 rfl (by decide) rfl ?_
  refine j_iconst F dX7_position_2 ?_
  refine j_istore_n F (lv' := [(2, .int (iI 0)), (1, .int (iI 0)), (0, .ref (ad 0))]) dX7_position_3 rfl (by decide) rfl ?_
  refine J.loc [0, 1, 2] rfl ?_
  refine J_loop (σ := Nat × NF) (fun x9 : Nat × NF => match x9 with | (k, f1) => k ≤ L.length ∧ rep f1 (srt L k) ∧ ∀ j, k ≤ j → j < L.length → f1 j = ((L.getD j 0 : Nat) : Int)) (fun x9 : Nat × NF => match x9 with | (k, f1) => L.length - k) (fun x9 : Nat × NF => match x9 with | (k, f1) => moC g ad th cC cT (cL.1, cL.2.1, cL.2.2.1, cL.2.2.2.1, cL.2.2.2.2.1, cL.2.2.2.2.2.1, f1, ((L.length : Nat) : Int)) cP) (fun x9 : Nat × NF => match x9 with | (k, f1) => [(2, .int (iI (k : Int))), (1, .int (iI (((smT L k) : Nat) : Int))), (0, .ref (ad 0))]) (0, cL.2.2.2.2.2.2.1) (by show 0 ≤ L.length ∧ rep cL.2.2.2.2.2.2.1 (srt L 0) ∧ ∀ j, 0 ≤ j → j < L.length → cL.2.2.2.2.2.2.1 j = ((L.getD j 0 : Nat) : Int); exact ⟨Nat.zero_le _, fun i hi => absurd hi (Nat.not_lt_zero i), fun j _ hj => hr j hj⟩) ?_
  rintro ⟨k, f1⟩ hI ih4
  have hI : k ≤ L.length ∧ rep f1 (srt L k) ∧ ∀ j, k ≤ j → j < L.length → f1 j = ((L.getD j 0 : Nat) : Int) := hI
  obtain ⟨i1, i2, i3⟩ := hI
  refine j_iload_n F dX7_position_4 rfl 0 rfl ?_
  refine j_aload_n F dX7_position_5 rfl 2 rfl ?_
  refine j_getf F (ref := "CairnGameModel") (C := RX7) (T := TX7) (N := 27) (ci := 7) (index := 70) (v := .int (iI ((L.length : Nat) : Int))) (fun w h => (List.mem_cons_of_mem _ (List.mem_append_right _ h))) 0 rfl rfl 21 (by decide) (List.mem_cons_of_mem _ (List.mem_append_left _ (List.mem_of_getElem? (i := 0) rfl))) rfl rfl dX7_position_6 ?_
  refine j_icmp_ge F (tgt := 80) dX7_position_9 (by decide) ⟨(by unfold rg; omega), (by unfold rg; omega)⟩ (fun c9 => ?_) (fun c9 => ?_)
  · have ek : k = L.length := by omega
    have i4 : rep f1 (sortL L) := by rw [← srt_all, ← ek]; exact i2
    have es : smT L k = sm L := by rw [ek]; exact smT_all L
    refine j_aload_n F dX7_position_80 rfl 2 rfl ?_
    refine j_getf F (ref := "CairnGameModel") (C := RX7) (T := TX7) (N := 27) (ci := 7) (index := 70) (v := .int (iI ((L.length : Nat) : Int))) (fun w h => (List.mem_cons_of_mem _ (List.mem_append_right _ h))) 0 rfl rfl 21 (by decide) (List.mem_cons_of_mem _ (List.mem_append_left _ (List.mem_of_getElem? (i := 0) rfl))) rfl rfl dX7_position_81 ?_
    refine j_istore_n F (lv' := [(2, .int (iI ((L.length : Nat) : Int))), (1, .int (iI (((smT L k) : Nat) : Int))), (0, .ref (ad 0))]) dX7_position_84 rfl (by decide) rfl ?_
    refine J.loc [0, 1, 2] rfl ?_
    refine J_loop (σ := Nat × NF) (fun x9 : Nat × NF => match x9 with | (k2, f4) => k2 ≤ 12 ∧ L.length ≤ k2 ∧ rep f4 (sortL L) ∧ ∀ j, L.length ≤ j → j < k2 → f4 j = 0) (fun x9 : Nat × NF => match x9 with | (k2, f4) => 12 - k2) (fun x9 : Nat × NF => match x9 with | (k2, f4) => moC g ad th cC cT (cL.1, cL.2.1, cL.2.2.1, cL.2.2.2.1, cL.2.2.2.2.1, cL.2.2.2.2.2.1, f4, ((L.length : Nat) : Int)) cP) (fun x9 : Nat × NF => match x9 with | (k2, f4) => [(2, .int (iI (k2 : Int))), (1, .int (iI (((smT L k) : Nat) : Int))), (0, .ref (ad 0))]) (L.length, f1) (by show L.length ≤ 12 ∧ L.length ≤ L.length ∧ rep f1 (sortL L) ∧ ∀ j, L.length ≤ j → j < L.length → f1 j = 0; exact ⟨hlen, Nat.le_refl _, i4, fun j a b => absurd a (by omega)⟩) ?_
    rintro ⟨k2, f4⟩ hI ih85
    have hI : k2 ≤ 12 ∧ L.length ≤ k2 ∧ rep f4 (sortL L) ∧ ∀ j, L.length ≤ j → j < k2 → f4 j = 0 := hI
    obtain ⟨j1, j2, j3, j4⟩ := hI
    refine j_iload_n F dX7_position_85 rfl 0 rfl ?_
    refine j_bipush F dX7_position_86 (by decide) ?_
    refine j_icmp_ge F (tgt := 104) dX7_position_88 (by decide) ⟨(by unfold rg; omega), (by unfold rg; omega)⟩ (fun c88 => ?_) (fun c88 => ?_)
    · have ek2 : k2 = 12 := by omega
      have hbh : bhR f4 (sortL L) := bhR_of j3 (fun j a b => j4 j (by rw [← sortL_len]; exact a) (by omega))
      obtain ⟨q0, q1, q2, q3⟩ := pos_find hL
      have hbg := hP.2.1 (sm L) (by have := hL.2; omega)
      refine j_aload_n F dX7_position_104 rfl 2 rfl ?_
      refine j_getf F (ref := "CairnGameModel") (C := RX7) (T := TX7) (N := 27) (ci := 7) (index := 22) (v := .ref (ad 7)) (fun w h => (List.mem_cons_of_mem _ (List.mem_append_right _ h))) 0 rfl rfl 7 (by decide) (List.mem_cons_of_mem _ (List.mem_append_left _ (List.mem_of_getElem? (i := 2) rfl))) rfl rfl dX7_position_105 ?_
      refine j_iload_n F dX7_position_108 rfl 1 rfl ?_
      refine J.top (congrArg iI (show (((smT L k) : Nat) : Int) = (((sm L) : Nat) : Int) from by rw [es])) ?_
      refine j_iald F 5 (n := 14) (f := cT.2.1) rfl (sm L) (by omega) (by have := hL.2; omega) (by decide) dX7_position_109 ?_
      refine J.top (congrArg iI (show cT.2.1 (sm L) = (((bgT (sm L)) : Nat) : Int) from hbg)) ?_
      refine j_istore_n F (lv' := [(2, .int (iI (((bgT (sm L)) : Nat) : Int))), (1, .int (iI (((smT L k) : Nat) : Int))), (0, .ref (ad 0))]) dX7_position_110 rfl (by decide) rfl ?_
      refine J.loc [0, 2] rfl ?_
      refine J_loop (σ := Nat) (fun p : Nat => p ≤ q0) (fun p : Nat => q0 - p) (fun p : Nat => moC g ad th cC cT (cL.1, cL.2.1, cL.2.2.1, cL.2.2.2.1, cL.2.2.2.2.1, cL.2.2.2.2.2.1, f4, ((L.length : Nat) : Int)) cP) (fun p : Nat => [(2, .int (iI (p : Int))), (0, .ref (ad 0))]) ((bgT (sm L))) (by show (bgT (sm L)) ≤ q0; exact q1) ?_
      rintro p hI ih111
      have hI : p ≤ q0 := hI
      refine j_aload_n F dX7_position_111 rfl 1 rfl ?_
      refine j_iload_n F dX7_position_112 rfl 0 rfl ?_
      refine j_callV_I F (As := [.int (iI (p : Int))]) (wr := []) (st := []) (c_X7_isBehind hfl D g z ad th cC cT (cL.1, cL.2.1, cL.2.2.1, cL.2.2.2.1, cL.2.2.2.2.1, cL.2.2.2.2.2.1, f4, ((L.length : Nat) : Int)) cP p (sortL L) (by omega) hP hbh (sortL_H hL)) (idx := 73) (C := RX7) gX7_position_X7_isBehind rfl rfl [0, 1, 2, 3, 4, 5, 6, 7, 8, 9, 10, 11, 12, 13, 14] [] rfl rfl (by decide) (by decide) (by decide) (ci := 7) (q0 := 0) rfl rfl (by decide) (by decide) (le_ble rfl) ⟨by decide, by decide⟩ dX7_position_113 ?_
      rintro r9 u9 h9
      subst h9
      have hn01 := eqN_01 (posT.getD p []) (sortL L) 12
      refine J.wsEq (ws2 := moC g ad th cC cT (cL.1, cL.2.1, cL.2.2.1, cL.2.2.2.1, cL.2.2.2.2.1, cL.2.2.2.2.2.1, f4, ((L.length : Nat) : Int)) cP) rfl ?_
      refine j_if_ne F (tgt := 125) dX7_position_116 (by decide) (by unfold rg; omega) (fun c116 => ?_) (fun c116 => ?_)
      · refine j_iload_n F dX7_position_125 rfl 0 rfl ?_
        have hpe : posT.getD p [] = sortL L := eqN_eq (posT_H (by omega)) (sortL_H hL) (by omega)
        exact ret _ (f4, p) 0 0 _ _ dX7_position_126 (by decide) (by decide) (⟨rfl, by show p < 272; omega, hpe, hbh⟩)
      · have hpq : ¬ p = q0 := fun w => by rw [w, q3, eqN_rfl] at hn01; rw [w, q3, eqN_rfl] at c116; omega
        refine j_iinc F (lv' := [(2, .int (iI ((p : Int) + 1))), (0, .ref (ad 0))]) dX7_position_119 0 rfl (by decide) rfl ?_
        refine j_goto F (tgt := 111) dX7_position_122 (by decide) ?_
        refine J.loc [0, 1] rfl ?_
        exact ih111 (p + 1) (by show (p + 1) ≤ q0; omega) (by show q0 - (p + 1) < q0 - p; omega)
    · refine j_aload_n F dX7_position_91 rfl 2 rfl ?_
      refine j_getf F (ref := "CairnGameModel") (C := RX7) (T := TX7) (N := 27) (ci := 7) (index := 49) (v := .ref (ad 20)) (fun w h => (List.mem_cons_of_mem _ (List.mem_append_right _ h))) 0 rfl rfl 20 (by decide) (List.mem_cons_of_mem _ (List.mem_append_left _ (List.mem_of_getElem? (i := 1) rfl))) rfl rfl dX7_position_92 ?_
      refine j_iload_n F dX7_position_95 rfl 0 rfl ?_
      refine j_iconst F dX7_position_96 ?_
      refine j_iast F (ws' := moC g ad th cC cT (cL.1, cL.2.1, cL.2.2.1, cL.2.2.2.1, cL.2.2.2.2.1, cL.2.2.2.2.2.1, nup f4 k2 0, ((L.length : Nat) : Int)) cP) 14 (n := 13) (f := f4) rfl k2 (rfl) (by omega) (by decide) rfl dX7_position_97 ?_
      refine j_iinc F (lv' := [(2, .int (iI ((k2 : Int) + 1))), (1, .int (iI (((smT L k) : Nat) : Int))), (0, .ref (ad 0))]) dX7_position_98 0 rfl (by decide) rfl ?_
      refine j_goto F (tgt := 85) dX7_position_101 (by decide) ?_
      refine J.loc [0, 1, 2] rfl ?_
      exact ih85 ((k2 + 1), nup f4 k2 0) (by show (k2 + 1) ≤ 12 ∧ L.length ≤ (k2 + 1) ∧ rep (nup f4 k2 0) (sortL L) ∧ ∀ j, L.length ≤ j → j < (k2 + 1) → (nup f4 k2 0) j = 0; exact ⟨by omega, by omega, fun i hi => by rw [nup_n _ _ (by rw [sortL_len] at hi; omega)]; exact j3 i hi, fun j a b => (by by_cases w : j = k2; (rw [w, nup_s]); rw [nup_n _ _ w]; exact j4 j a (by omega))⟩) (by show 12 - (k2 + 1) < 12 - k2; omega)
  · have hk : k < L.length := by omega
    have hf := i3 k (Nat.le_refl k) hk
    have hx := okH_at hL hk
    have hl := srt_len L (k := k) (by omega)
    have hss := smT_le L k
    refine j_aload_n F dX7_position_12 rfl 2 rfl ?_
    refine j_getf F (ref := "CairnGameModel") (C := RX7) (T := TX7) (N := 27) (ci := 7) (index := 49) (v := .ref (ad 20)) (fun w h => (List.mem_cons_of_mem _ (List.mem_append_right _ h))) 0 rfl rfl 20 (by decide) (List.mem_cons_of_mem _ (List.mem_append_left _ (List.mem_of_getElem? (i := 1) rfl))) rfl rfl dX7_position_13 ?_
    refine j_iload_n F dX7_position_16 rfl 0 rfl ?_
    refine j_iald F 14 (n := 13) (f := f1) rfl k (rfl) (by omega) (by decide) dX7_position_17 ?_
    refine J.top (congrArg iI (show f1 k = (((L.getD k 0) : Nat) : Int) from hf)) ?_
    refine j_istore_n F (lv' := [(3, .int (iI (((L.getD k 0) : Nat) : Int))), (2, .int (iI (k : Int))), (1, .int (iI (((smT L k) : Nat) : Int))), (0, .ref (ad 0))]) dX7_position_18 rfl (by decide) rfl ?_
    refine j_iload_n F dX7_position_19 rfl 2 rfl ?_
    refine j_iload_n F dX7_position_20 rfl 0 rfl ?_
    refine j_iadd F dX7_position_21 ?_
    refine J.top (congrArg iI (show ((((smT L k) : Nat) : Int) + (((L.getD k 0) : Nat) : Int)) = (((smT L (k + 1)) : Nat) : Int) from by rw [smT]; rfl)) ?_
    refine j_istore_n F (lv' := [(1, .int (iI (((smT L (k + 1)) : Nat) : Int))), (3, .int (iI (((L.getD k 0) : Nat) : Int))), (2, .int (iI (k : Int))), (0, .ref (ad 0))]) dX7_position_22 rfl (by decide) rfl ?_
    refine j_iload_n F dX7_position_23 rfl 2 rfl ?_
    refine j_istore F (lv' := [(4, .int (iI (k : Int))), (1, .int (iI (((smT L (k + 1)) : Nat) : Int))), (3, .int (iI (((L.getD k 0) : Nat) : Int))), (2, .int (iI (k : Int))), (0, .ref (ad 0))]) dX7_position_24 (by decide) rfl ?_
    refine J.loc [0, 1, 2, 3, 4] rfl ?_
    refine J_loop (σ := Nat × NF) (fun x9 : Nat × NF => match x9 with | (p, f2) => p ≤ k ∧ (∀ j, j < p → f2 j = (((srt L k).getD j 0 : Nat) : Int)) ∧ (∀ j, p < j → j ≤ k → f2 j = (((srt L k).getD (j - 1) 0 : Nat) : Int)) ∧ (∀ j, k < j → j < L.length → f2 j = ((L.getD j 0 : Nat) : Int)) ∧ (∀ j, p ≤ j → j < k → (srt L k).getD j 0 < L.getD k 0)) (fun x9 : Nat × NF => match x9 with | (p, f2) => p) (fun x9 : Nat × NF => match x9 with | (p, f2) => moC g ad th cC cT (cL.1, cL.2.1, cL.2.2.1, cL.2.2.2.1, cL.2.2.2.2.1, cL.2.2.2.2.2.1, f2, ((L.length : Nat) : Int)) cP) (fun x9 : Nat × NF => match x9 with | (p, f2) => [(4, .int (iI (p : Int))), (1, .int (iI (((smT L (k + 1)) : Nat) : Int))), (3, .int (iI (((L.getD k 0) : Nat) : Int))), (2, .int (iI (k : Int))), (0, .ref (ad 0))]) (k, f1) (by show k ≤ k ∧ (∀ j, j < k → f1 j = (((srt L k).getD j 0 : Nat) : Int)) ∧ (∀ j, k < j → j ≤ k → f1 j = (((srt L k).getD (j - 1) 0 : Nat) : Int)) ∧ (∀ j, k < j → j < L.length → f1 j = ((L.getD j 0 : Nat) : Int)) ∧ (∀ j, k ≤ j → j < k → (srt L k).getD j 0 < L.getD k 0); exact ⟨Nat.le_refl _, fun j hj => i2 j (by omega), fun j a b => absurd a (by omega), fun j a b => i3 j (by omega) b, fun j a b => absurd a (by omega)⟩) ?_
    rintro ⟨p, f2⟩ hI ih26
    have hI : p ≤ k ∧ (∀ j, j < p → f2 j = (((srt L k).getD j 0 : Nat) : Int)) ∧ (∀ j, p < j → j ≤ k → f2 j = (((srt L k).getD (j - 1) 0 : Nat) : Int)) ∧ (∀ j, k < j → j < L.length → f2 j = ((L.getD j 0 : Nat) : Int)) ∧ (∀ j, p ≤ j → j < k → (srt L k).getD j 0 < L.getD k 0) := hI
    obtain ⟨n1, n2, n3, n4, n5⟩ := hI
    refine j_iload F dX7_position_26 0 rfl ?_
    refine j_if_le F (tgt := 66) dX7_position_28 (by decide) (by unfold rg; omega) (fun c28 => ?_) (fun c28 => ?_)
    · have hE := ins_fin hk n1 n2 n3 n5 (Or.inl (show p = 0 by omega))
      have hE2 : ∀ j, k + 1 ≤ j → j < L.length → (nup f2 p ((L.getD k 0 : Nat) : Int)) j = ((L.getD j 0 : Nat) : Int) := fun j a b => by rw [nup_n _ _ (by omega)]; exact n4 j (by omega) b
      refine j_aload_n F dX7_position_66 rfl 4 rfl ?_
      refine j_getf F (ref := "CairnGameModel") (C := RX7) (T := TX7) (N := 27) (ci := 7) (index := 49) (v := .ref (ad 20)) (fun w h => (List.mem_cons_of_mem _ (List.mem_append_right _ h))) 0 rfl rfl 20 (by decide) (List.mem_cons_of_mem _ (List.mem_append_left _ (List.mem_of_getElem? (i := 1) rfl))) rfl rfl dX7_position_67 ?_
      refine j_iload F dX7_position_70 0 rfl ?_
      refine j_iload_n F dX7_position_72 rfl 2 rfl ?_
      refine j_iast F (ws' := moC g ad th cC cT (cL.1, cL.2.1, cL.2.2.1, cL.2.2.2.1, cL.2.2.2.2.1, cL.2.2.2.2.2.1, nup f2 p (((L.getD k 0) : Nat) : Int), ((L.length : Nat) : Int)) cP) 14 (n := 13) (f := f2) rfl p (rfl) (by omega) (by decide) rfl dX7_position_73 ?_
      refine j_iinc F (lv' := [(2, .int (iI ((k : Int) + 1))), (4, .int (iI (p : Int))), (1, .int (iI (((smT L (k + 1)) : Nat) : Int))), (3, .int (iI (((L.getD k 0) : Nat) : Int))), (0, .ref (ad 0))]) dX7_position_74 3 rfl (by decide) rfl ?_
      refine j_goto F (tgt := 4) dX7_position_77 (by decide) ?_
      refine J.loc [0, 2, 4] rfl ?_
      exact ih4 ((k + 1), nup f2 p (((L.getD k 0) : Nat) : Int)) (by show (k + 1) ≤ L.length ∧ rep (nup f2 p (((L.getD k 0) : Nat) : Int)) (srt L (k + 1)) ∧ ∀ j, (k + 1) ≤ j → j < L.length → (nup f2 p (((L.getD k 0) : Nat) : Int)) j = ((L.getD j 0 : Nat) : Int); exact ⟨by omega, hE, hE2⟩) (by show L.length - (k + 1) < L.length - k; omega)
    · have hpp := n2 (p - 1) (by omega)
      have hpd := desc_le12 hL (k := k) (by omega) (p - 1)
      refine j_aload_n F dX7_position_31 rfl 4 rfl ?_
      refine j_getf F (ref := "CairnGameModel") (C := RX7) (T := TX7) (N := 27) (ci := 7) (index := 49) (v := .ref (ad 20)) (fun w h => (List.mem_cons_of_mem _ (List.mem_append_right _ h))) 0 rfl rfl 20 (by decide) (List.mem_cons_of_mem _ (List.mem_append_left _ (List.mem_of_getElem? (i := 1) rfl))) rfl rfl dX7_position_32 ?_
      refine j_iload F dX7_position_35 0 rfl ?_
      refine j_iconst F dX7_position_37 ?_
      refine j_isub F dX7_position_38 ?_
      refine J.top (congrArg iI (show ((p : Int) - 1) = (((p - 1) : Nat) : Int) from by omega)) ?_
      refine j_iald F 14 (n := 13) (f := f2) rfl (p - 1) (by omega) (by omega) (by decide) dX7_position_39 ?_
      refine J.top (congrArg iI (show f2 (p - 1) = ((((srt L k).getD (p - 1) 0) : Nat) : Int) from hpp)) ?_
      refine j_iload_n F dX7_position_40 rfl 2 rfl ?_
      refine j_icmp_ge F (tgt := 66) dX7_position_41 (by decide) ⟨(by unfold rg; omega), (by unfold rg; omega)⟩ (fun c41 => ?_) (fun c41 => ?_)
      · have hE := ins_fin hk n1 n2 n3 n5 (Or.inr (by omega))
        have hE2 : ∀ j, k + 1 ≤ j → j < L.length → (nup f2 p ((L.getD k 0 : Nat) : Int)) j = ((L.getD j 0 : Nat) : Int) := fun j a b => by rw [nup_n _ _ (by omega)]; exact n4 j (by omega) b
        refine j_aload_n F dX7_position_66 rfl 4 rfl ?_
        refine j_getf F (ref := "CairnGameModel") (C := RX7) (T := TX7) (N := 27) (ci := 7) (index := 49) (v := .ref (ad 20)) (fun w h => (List.mem_cons_of_mem _ (List.mem_append_right _ h))) 0 rfl rfl 20 (by decide) (List.mem_cons_of_mem _ (List.mem_append_left _ (List.mem_of_getElem? (i := 1) rfl))) rfl rfl dX7_position_67 ?_
        refine j_iload F dX7_position_70 0 rfl ?_
        refine j_iload_n F dX7_position_72 rfl 2 rfl ?_
        refine j_iast F (ws' := moC g ad th cC cT (cL.1, cL.2.1, cL.2.2.1, cL.2.2.2.1, cL.2.2.2.2.1, cL.2.2.2.2.2.1, nup f2 p (((L.getD k 0) : Nat) : Int), ((L.length : Nat) : Int)) cP) 14 (n := 13) (f := f2) rfl p (rfl) (by omega) (by decide) rfl dX7_position_73 ?_
        refine j_iinc F (lv' := [(2, .int (iI ((k : Int) + 1))), (4, .int (iI (p : Int))), (1, .int (iI (((smT L (k + 1)) : Nat) : Int))), (3, .int (iI (((L.getD k 0) : Nat) : Int))), (0, .ref (ad 0))]) dX7_position_74 3 rfl (by decide) rfl ?_
        refine j_goto F (tgt := 4) dX7_position_77 (by decide) ?_
        refine J.loc [0, 2, 4] rfl ?_
        exact ih4 ((k + 1), nup f2 p (((L.getD k 0) : Nat) : Int)) (by show (k + 1) ≤ L.length ∧ rep (nup f2 p (((L.getD k 0) : Nat) : Int)) (srt L (k + 1)) ∧ ∀ j, (k + 1) ≤ j → j < L.length → (nup f2 p (((L.getD k 0) : Nat) : Int)) j = ((L.getD j 0 : Nat) : Int); exact ⟨by omega, hE, hE2⟩) (by show L.length - (k + 1) < L.length - k; omega)
      · refine j_aload_n F dX7_position_44 rfl 4 rfl ?_
        refine j_getf F (ref := "CairnGameModel") (C := RX7) (T := TX7) (N := 27) (ci := 7) (index := 49) (v := .ref (ad 20)) (fun w h => (List.mem_cons_of_mem _ (List.mem_append_right _ h))) 0 rfl rfl 20 (by decide) (List.mem_cons_of_mem _ (List.mem_append_left _ (List.mem_of_getElem? (i := 1) rfl))) rfl rfl dX7_position_45 ?_
        refine j_iload F dX7_position_48 0 rfl ?_
        refine j_aload_n F dX7_position_50 rfl 4 rfl ?_
        refine j_getf F (ref := "CairnGameModel") (C := RX7) (T := TX7) (N := 27) (ci := 7) (index := 49) (v := .ref (ad 20)) (fun w h => (List.mem_cons_of_mem _ (List.mem_append_right _ h))) 0 rfl rfl 20 (by decide) (List.mem_cons_of_mem _ (List.mem_append_left _ (List.mem_of_getElem? (i := 1) rfl))) rfl rfl dX7_position_51 ?_
        refine j_iload F dX7_position_54 0 rfl ?_
        refine j_iconst F dX7_position_56 ?_
        refine j_isub F dX7_position_57 ?_
        refine J.top (congrArg iI (show ((p : Int) - 1) = (((p - 1) : Nat) : Int) from by omega)) ?_
        refine j_iald F 14 (n := 13) (f := f2) rfl (p - 1) (by omega) (by omega) (by decide) dX7_position_58 ?_
        refine J.top (congrArg iI (show f2 (p - 1) = ((((srt L k).getD (p - 1) 0) : Nat) : Int) from hpp)) ?_
        refine j_iast F (ws' := moC g ad th cC cT (cL.1, cL.2.1, cL.2.2.1, cL.2.2.2.1, cL.2.2.2.2.1, cL.2.2.2.2.2.1, nup f2 p ((((srt L k).getD (p - 1) 0) : Nat) : Int), ((L.length : Nat) : Int)) cP) 14 (n := 13) (f := f2) rfl p (rfl) (by omega) (by decide) rfl dX7_position_59 ?_
        refine j_iinc F (lv' := [(4, .int (iI ((p : Int) + (-1)))), (1, .int (iI (((smT L (k + 1)) : Nat) : Int))), (3, .int (iI (((L.getD k 0) : Nat) : Int))), (2, .int (iI (k : Int))), (0, .ref (ad 0))]) dX7_position_60 0 rfl (by decide) rfl ?_
        refine J.lvEq (lv2 := [(4, .int (iI (((p - 1) : Nat) : Int))), (1, .int (iI (((smT L (k + 1)) : Nat) : Int))), (3, .int (iI (((L.getD k 0) : Nat) : Int))), (2, .int (iI (k : Int))), (0, .ref (ad 0))]) (by rw [show ((p : Int) + (-1)) = ((p - 1 : Nat) : Int) by omega]) ?_
        refine j_goto F (tgt := 26) dX7_position_63 (by decide) ?_
        refine J.loc [0, 1, 2, 3, 4] rfl ?_
        exact ih26 ((p - 1), nup f2 p ((((srt L k).getD (p - 1) 0) : Nat) : Int)) (by show (p - 1) ≤ k ∧ (∀ j, j < (p - 1) → (nup f2 p ((((srt L k).getD (p - 1) 0) : Nat) : Int)) j = (((srt L k).getD j 0 : Nat) : Int)) ∧ (∀ j, (p - 1) < j → j ≤ k → (nup f2 p ((((srt L k).getD (p - 1) 0) : Nat) : Int)) j = (((srt L k).getD (j - 1) 0 : Nat) : Int)) ∧ (∀ j, k < j → j < L.length → (nup f2 p ((((srt L k).getD (p - 1) 0) : Nat) : Int)) j = ((L.getD j 0 : Nat) : Int)) ∧ (∀ j, (p - 1) ≤ j → j < k → (srt L k).getD j 0 < L.getD k 0); exact ⟨by omega, fun j hj => by rw [nup_n _ _ (by omega)]; exact n2 j (by omega), fun j a b => (by by_cases w : j = p; (rw [w, nup_s]); rw [nup_n _ _ w]; exact n3 j (by omega) b), fun j a b => by rw [nup_n _ _ (by omega)]; exact n4 j a b, fun j a b => (by by_cases w : j = p - 1; (rw [w]; omega); exact n5 j (by omega) b)⟩) (by show (p - 1) < p; omega)

end X7C