/-! ===== the model: its table is laid ===== -/
section X7K
theorem nextM_ones : ∀ r, nextM (List.replicate r 1) = none
  | 0 => rfl
  | r + 1 => by
    rw [List.replicate_succ, nextM, nextM_ones r]
    rfl
theorem nextM_at {x r : Nat} (hx : 2 ≤ x) : ∀ A : List Nat, nextM (A ++ x :: List.replicate r 1) = some (A ++ (x - 1) :: fillM (r + 1) (r + 1) (x - 1))
  | [] => by
    rw [List.nil_append, nextM, nextM_ones r]
    show (if x ≤ 1 then none else some ((x - 1) :: fillM ((List.replicate r 1).length + 1) ((List.replicate r 1).length + 1) (x - 1))) = _
    rw [if_neg (by omega), List.length_replicate]
    rfl
  | a :: A => by
    rw [List.cons_append, nextM, nextM_at hx A]
    rfl
theorem fillM_fuel {m : Nat} (hm : 1 ≤ m) : ∀ (a b rs : Nat), rs ≤ a → rs ≤ b → fillM a rs m = fillM b rs m
  | 0, 0, _, _, _ => rfl
  | 0, b + 1, rs, h, _ => by
    rw [show rs = 0 by omega, fillM, fillM, if_pos rfl]
  | a + 1, 0, rs, _, h => by
    rw [show rs = 0 by omega, fillM, fillM, if_pos rfl]
  | a + 1, b + 1, rs, h1, h2 => by
    rw [fillM, fillM]
    by_cases q : rs = 0
    · rw [if_pos q, if_pos q]
    · rw [if_neg q, if_neg q, fillM_fuel hm a b (rs - min rs m) (by omega) (by omega)]
theorem fillM_s {rs m : Nat} (hm : 1 ≤ m) (h : 1 ≤ rs) : fillM rs rs m = min rs m :: fillM (rs - min rs m) (rs - min rs m) m := by
  obtain ⟨k, rfl⟩ : ∃ k, rs = k + 1 := ⟨rs - 1, by omega⟩
  rw [fillM, if_neg (by omega), fillM_fuel hm k (k + 1 - min (k + 1) m) _ (by omega) (Nat.le_refl _)]
theorem fillM_sm {m : Nat} (hm : 1 ≤ m) : ∀ n rs, rs ≤ n → sm (fillM n rs m) = rs ∧ ∀ x ∈ fillM n rs m, 1 ≤ x
  | 0, rs, h => ⟨by rw [fillM]; show 0 = rs; omega, fun x hx => by rw [fillM] at hx; cases hx⟩
  | n + 1, rs, h => by
    rw [fillM]
    by_cases q : rs = 0
    · rw [if_pos q]
      exact ⟨by show 0 = rs; omega, fun x hx => by cases hx⟩
    · rw [if_neg q]
      obtain ⟨h1, h2⟩ := fillM_sm hm n (rs - min rs m) (by omega)
      refine ⟨by show min rs m + sm _ = rs; rw [h1]; omega, fun x hx => ?_⟩
      rcases List.mem_cons.mp hx with e | e
      · omega
      · exact h2 x e
theorem sm_rep1 : ∀ r, sm (List.replicate r 1) = r
  | 0 => rfl
  | r + 1 => by
    rw [List.replicate_succ]
    show 1 + sm _ = _
    rw [sm_rep1 r]; omega
theorem ones_of : ∀ {L : List Nat}, (∀ j, j < L.length → L.getD j 0 = 1) → L = List.replicate L.length 1
  | [], _ => rfl
  | x :: l, h => by
    have h0 : x = 1 := h 0 (Nat.succ_pos _)
    have h1 := ones_of (L := l) (fun j hj => h (j + 1) (Nat.succ_lt_succ hj))
    rw [h0, List.length_cons, List.replicate_succ]
    exact congrArg _ h1
theorem dec_of : ∀ {L : List Nat} {q : Nat}, q < L.length → (∀ j, q < j → j < L.length → L.getD j 0 = 1) → L = L.take q ++ L.getD q 0 :: List.replicate (L.length - 1 - q) 1
  | [], _, h, _ => absurd h (Nat.not_lt_zero _)
  | x :: l, 0, _, h => by
    have h1 := ones_of (L := l) (fun j hj => h (j + 1) (Nat.succ_pos _) (Nat.succ_lt_succ hj))
    show x :: l = x :: List.replicate (l.length + 1 - 1 - 0) 1
    rw [show l.length + 1 - 1 - 0 = l.length by omega]
    exact congrArg _ h1
  | x :: l, q + 1, hq, h => by
    have h1 := dec_of (L := l) (q := q) (Nat.lt_of_succ_lt_succ hq) (fun j a b => h (j + 1) (Nat.succ_lt_succ a) (Nat.succ_lt_succ b))
    show x :: l = x :: (l.take q ++ l.getD q 0 :: List.replicate (l.length + 1 - 1 - (q + 1)) 1)
    rw [show l.length + 1 - 1 - (q + 1) = l.length - 1 - q by omega]
    exact congrArg _ h1
/-- the row behind L where the heap q is the last with more than one stone -/
def nxL (L : List Nat) (q : Nat) : List Nat := L.take q ++ (L.getD q 0 - 1) :: fillM (L.length - q) (L.length - q) (L.getD q 0 - 1)
theorem nxL_ok {L : List Nat} {q : Nat} (hL : okH L) (hq : q < L.length) (h2 : 2 ≤ L.getD q 0) (h : ∀ j, q < j → j < L.length → L.getD j 0 = 1) : nextM L = some (nxL L q) ∧ okH (nxL L q) ∧ sm (nxL L q) = sm L := by
  have e := dec_of hq h
  have er : L.length - 1 - q + 1 = L.length - q := by omega
  obtain ⟨f1, f2⟩ := fillM_sm (m := L.getD q 0 - 1) (by omega) (L.length - q) (L.length - q) (Nat.le_refl _)
  have hs : sm (nxL L q) = sm L := by
    have e2 := congrArg sm e
    rw [sm_app] at e2
    unfold nxL
    rw [sm_app]
    have e3 : sm (L.getD q 0 :: List.replicate (L.length - 1 - q) 1) = L.getD q 0 + (L.length - 1 - q) := by
      show L.getD q 0 + sm _ = _
      rw [sm_rep1]
    have e4 : sm ((L.getD q 0 - 1) :: fillM (L.length - q) (L.length - q) (L.getD q 0 - 1)) = L.getD q 0 - 1 + (L.length - q) := by
      show L.getD q 0 - 1 + sm _ = _
      rw [f1]
    rw [e4, e2, e3]
    omega
  refine ⟨?_, ⟨fun x hx => ?_, by rw [hs]; exact hL.2⟩, hs⟩
  · have h9 := nextM_at (r := L.length - 1 - q) h2 (L.take q)
    rw [← e, er] at h9
    exact h9
  · unfold nxL at hx
    rcases List.mem_append.mp hx with w | w
    · exact hL.1 x (List.mem_of_mem_take w)
    · rcases List.mem_cons.mp w with w | w
      · omega
      · exact f2 x w
theorem take_at {L : List Nat} {q j : Nat} (h : j < q) (hq : q ≤ L.length) : (L.take q).getD j 0 = L.getD j 0 := by
  rw [List.getD_eq_getElem?_getD, List.getD_eq_getElem?_getD, List.getElem?_take, if_pos h]

theorem go_0 {L : List Nat} {r : Nat} {f1 : NF} (hq : L.length - 1 - r < L.length) (i2 : ∀ j, j < L.length - r → f1 j = ((L.getD j 0 : Nat) : Int)) (i3 : ∀ j, L.length - r ≤ j → j < 12 → f1 j = 0) (hr : r < L.length := by omega) : ((L.take (L.length - 1 - r) ++ [(L.getD (L.length - 1 - r) 0 - 1)]) ++ fillM (r + 1) (r + 1) (L.getD (L.length - 1 - r) 0 - 1) = nxL L (L.length - 1 - r) ∧ L.length - 1 - r < (L.take (L.length - 1 - r) ++ [(L.getD (L.length - 1 - r) 0 - 1)]).length) ∧ (∀ j, j < (L.take (L.length - 1 - r) ++ [(L.getD (L.length - 1 - r) 0 - 1)]).length → nup f1 (L.length - 1 - r) (((L.getD (L.length - 1 - r) 0 - 1) : Nat) : Int) j = (((L.take (L.length - 1 - r) ++ [(L.getD (L.length - 1 - r) 0 - 1)]).getD j 0 : Nat) : Int)) ∧ (∀ j, (L.take (L.length - 1 - r) ++ [(L.getD (L.length - 1 - r) 0 - 1)]).length ≤ j → j < 12 → nup f1 (L.length - 1 - r) (((L.getD (L.length - 1 - r) 0 - 1) : Nat) : Int) j = 0) ∧ nup f1 (L.length - 1 - r) (((L.getD (L.length - 1 - r) 0 - 1) : Nat) : Int) (L.length - 1 - r) = (((L.getD (L.length - 1 - r) 0 - 1) : Nat) : Int) := by
  have el : (L.take (L.length - 1 - r) ++ [(L.getD (L.length - 1 - r) 0 - 1)]).length = L.length - r := by
    rw [List.length_append, len_take (by omega)]
    show _ + 1 = _
    omega
  rw [el]
  refine ⟨⟨?_, by omega⟩, fun j hj => ?_, fun j a b => ?_, nup_s _ _ _⟩
  · unfold nxL
    rw [List.append_assoc, show L.length - (L.length - 1 - r) = r + 1 by omega]
    rfl
  · by_cases w : j = L.length - 1 - r
    · have e9 := len_take (L := L) (h := L.length - 1 - r) (by omega)
      rw [w, nup_s]
      have e8 := getD_app_r (a := L.take (L.length - 1 - r)) (x := (L.getD (L.length - 1 - r) 0 - 1)) (d := 0)
      rw [e9] at e8
      rw [e8]
    · have e9 := len_take (L := L) (h := L.length - 1 - r) (by omega)
      rw [nup_n _ _ w, getD_app_l (by omega), take_at (by omega) (by omega)]
      exact i2 j (by omega)
  · rw [nup_n _ _ (by omega)]
    exact i3 j (by omega) b

set_option maxHeartbeats 2000000 in
set_option maxRecDepth 100000 in
theorem c_X7_goesOn {l : Launch} (hfl : l.flags = flags0) (D : va_G) (g : GT) (z : ZT) (ad : Nat → Nat) (th : Int) (cC : CT) (cT : TT) (cL : LT) (cP : PT) (L : List Nat) (hL : okH L) (hb : bhR cL.1 L) : CI l yX7_goesOn wsX7_goesOn 1 24 1 D g z [.ref (ad 0), .int (iI ((L.length : Nat) : Int))] (moC g ad th cC cT cL cP) (fun (r9 : Int32) (u9 : NF) => (nextM L = none ∧ r9 = iI 0) ∨ (∃ L2, nextM L = some L2 ∧ bhR u9 L2 ∧ okH L2 ∧ sm L2 = sm L ∧ r9 = iI 1)) (fun (u9 : NF) => moC g ad th cC cT (u9, cL.2.1, cL.2.2.1, cL.2.2.2.1, cL.2.2.2.2.1, cL.2.2.2.2.2.1, cL.2.2.2.2.2.2.1, cL.2.2.2.2.2.2.2) cP) 0 0 := by
  refine CI_of hfl (own := RX7) ⟨0, 0, 0, 0⟩ 1 24 1 (by decide +kernel) rfl rfl ⟨by decide, by decide, by decide +kernel⟩ ⟨by decide, by decide⟩ (le_ble rfl) (fun r9 u9 h => nar_01 (v := if r9 = iI 0 then 0 else 1) (by rcases h with ⟨-, e⟩ | ⟨_, -, -, -, -, e⟩; (rw [if_pos e, e]); rw [e, if_neg (by decide)]) (by split <;> omega)) ?_
  intro p e s m below meth c A Q F ret
  change J p l e _ s m _ below meth c A D _ Q 0 0 (moC g ad th cC cT cL cP) [(0, .ref (ad 0)), (1, .int (iI ((L.length : Nat) : Int)))] [] 0
  have hlen := okH_len hL
  refine j_iload_n F dX7_goesOn_0 rfl 1 rfl ?_
  refine j_iconst F dX7_goesOn_1 ?_
  refine j_isub F dX7_goesOn_2 ?_
  refine j_istore_n F (lv' := [(2, .int (iI (((L.length : Nat) : Int) - 1))), (0, .ref (ad 0)), (1, .int (iI ((L.length : Nat) : Int)))]) dX7_goesOn_3 rfl (by decide) rfl ?_
  refine J.lvEq (lv2 := [(2, .int (iI ((L.length : Int) - ((0 : Nat) : Int) - 1))), (0, .ref (ad 0)), (1, .int (iI ((L.length : Nat) : Int)))]) (by first | (rw [show (((L.length : Nat) : Int) - 1) = ((L.length : Int) - ((0 : Nat) : Int) - 1) by omega]) | (dsimp only; rw [show (((L.length : Nat) : Int) - 1) = ((L.length : Int) - ((0 : Nat) : Int) - 1) by omega])) ?_
  refine j_iconst F dX7_goesOn_4 ?_
  refine j_istore_n F (lv' := [(3, .int (iI 0)), (2, .int (iI ((L.length : Int) - ((0 : Nat) : Int) - 1))), (0, .ref (ad 0)), (1, .int (iI ((L.length : Nat) : Int)))]) dX7_goesOn_5 rfl (by decide) rfl ?_
  refine J.loc [0, 1, 2] rfl ?_
  refine J_loop (σ := Nat × NF) (fun x9 : Nat × NF => match x9 with | (r, f1) => r ≤ L.length ∧ (∀ j, j < L.length - r → f1 j = ((L.getD j 0 : Nat) : Int)) ∧ (∀ j, L.length - r ≤ j → j < 12 → f1 j = 0) ∧ ∀ j, L.length - r ≤ j → j < L.length → L.getD j 0 = 1) (fun x9 : Nat × NF => match x9 with | (r, f1) => L.length - r) (fun x9 : Nat × NF => match x9 with | (r, f1) => moC g ad th cC cT (f1, cL.2.1, cL.2.2.1, cL.2.2.2.1, cL.2.2.2.2.1, cL.2.2.2.2.2.1, cL.2.2.2.2.2.2.1, cL.2.2.2.2.2.2.2) cP) (fun x9 : Nat × NF => match x9 with | (r, f1) => [(3, .int (iI (r : Int))), (2, .int (iI ((L.length : Int) - (r : Int) - 1))), (0, .ref (ad 0))]) (0, cL.1) (by show 0 ≤ L.length ∧ (∀ j, j < L.length - 0 → cL.1 j = ((L.getD j 0 : Nat) : Int)) ∧ (∀ j, L.length - 0 ≤ j → j < 12 → cL.1 j = 0) ∧ ∀ j, L.length - 0 ≤ j → j < L.length → L.getD j 0 = 1; exact ⟨Nat.zero_le _, fun j hj => hb j (by omega), fun j a b => by rw [hb j b, getD_out0 _ j (by omega)]; rfl, fun j a b => absurd a (by omega)⟩) ?_
  rintro ⟨r, f1⟩ hI ih6
  have hI : r ≤ L.length ∧ (∀ j, j < L.length - r → f1 j = ((L.getD j 0 : Nat) : Int)) ∧ (∀ j, L.length - r ≤ j → j < 12 → f1 j = 0) ∧ ∀ j, L.length - r ≤ j → j < L.length → L.getD j 0 = 1 := hI
  obtain ⟨i1, i2, i3, i4⟩ := hI
  refine j_iload_n F dX7_goesOn_6 rfl 1 rfl ?_
  refine j_if_lt F (tgt := 36) dX7_goesOn_7 (by decide) (by unfold rg; omega) (fun c7 => ?_) (fun c7 => ?_)
  · refine j_iload_n F dX7_goesOn_36 rfl 1 rfl ?_
    refine j_if_ge F (tgt := 42) dX7_goesOn_37 (by decide) (by unfold rg; omega) (fun h9 => by exfalso; omega) (fun c37 => ?_)
    refine j_iconst F dX7_goesOn_40 ?_
    exact ret _ f1 0 0 _ _ dX7_goesOn_41 (by decide) (by decide) (Or.inl ⟨by rw [ones_of (L := L) (fun j hj => i4 j (by omega) hj)]; exact nextM_ones _, rfl⟩)
  · have hq : L.length - 1 - r < L.length := by omega
    have hfq := i2 (L.length - 1 - r) (by omega)
    have hx := okH_at hL hq
    refine j_aload_n F dX7_goesOn_10 rfl 2 rfl ?_
    refine j_getf F (ref := "CairnGameModel") (C := RX7) (T := TX7) (N := 27) (ci := 7) (index := 37) (v := .ref (ad 14)) (fun w h => (List.mem_cons_of_mem _ (List.mem_append_right _ h))) 0 rfl rfl 14 (by decide) (List.mem_cons_of_mem _ (List.mem_append_left _ (List.mem_of_getElem? (i := 0) rfl))) rfl rfl dX7_goesOn_11 ?_
    refine j_iload_n F dX7_goesOn_14 rfl 1 rfl ?_
    refine j_iald F 10 (n := 12) (f := f1) rfl (L.length - 1 - r) (by omega) (by omega) (by decide) dX7_goesOn_15 ?_
    refine J.top (congrArg iI (show f1 (L.length - 1 - r) = (((L.getD (L.length - 1 - r) 0) : Nat) : Int) from hfq)) ?_
    refine j_iconst F dX7_goesOn_16 ?_
    refine j_icmp_ne F (tgt := 36) dX7_goesOn_17 (by decide) ⟨(by unfold rg; omega), (by unfold rg; omega)⟩ (fun c17 => ?_) (fun c17 => ?_)
    · refine j_iload_n F dX7_goesOn_36 rfl 1 rfl ?_
      refine j_if_ge F (tgt := 42) dX7_goesOn_37 (by decide) (by unfold rg; omega) (fun c37 => ?_) (fun h9 => by exfalso; omega)
      have h2x : 2 ≤ L.getD (L.length - 1 - r) 0 := by omega
      obtain ⟨x1, x2, x3⟩ := nxL_ok hL hq h2x (fun j a b => i4 j (by omega) b)
      have hnl := okH_len x2
      refine j_aload_n F dX7_goesOn_42 rfl 2 rfl ?_
      refine j_getf F (ref := "CairnGameModel") (C := RX7) (T := TX7) (N := 27) (ci := 7) (index := 37) (v := .ref (ad 14)) (fun w h => (List.mem_cons_of_mem _ (List.mem_append_right _ h))) 0 rfl rfl 14 (by decide) (List.mem_cons_of_mem _ (List.mem_append_left _ (List.mem_of_getElem? (i := 0) rfl))) rfl rfl dX7_goesOn_43 ?_
      refine j_iload_n F dX7_goesOn_46 rfl 1 rfl ?_
      refine j_dup2 F dX7_goesOn_47 rfl rfl ?_
      refine j_iald F 10 (n := 12) (f := f1) rfl (L.length - 1 - r) (by omega) (by omega) (by decide) dX7_goesOn_48 ?_
      refine J.top (congrArg iI (show f1 (L.length - 1 - r) = (((L.getD (L.length - 1 - r) 0) : Nat) : Int) from hfq)) ?_
      refine j_iconst F dX7_goesOn_49 ?_
      refine j_isub F dX7_goesOn_50 ?_
      refine J.top (congrArg iI (show ((((L.getD (L.length - 1 - r) 0) : Nat) : Int) - 1) = (((L.getD (L.length - 1 - r) 0 - 1) : Nat) : Int) from by omega)) ?_
      refine j_iast F (ws' := moC g ad th cC cT (nup f1 (L.length - 1 - r) (((L.getD (L.length - 1 - r) 0 - 1) : Nat) : Int), cL.2.1, cL.2.2.1, cL.2.2.2.1, cL.2.2.2.2.1, cL.2.2.2.2.2.1, cL.2.2.2.2.2.2.1, cL.2.2.2.2.2.2.2) cP) 10 (n := 12) (f := f1) rfl (L.length - 1 - r) (by omega) (by omega) (by decide) rfl dX7_goesOn_51 ?_
      refine j_iinc F (lv' := [(3, .int (iI ((r : Int) + 1))), (2, .int (iI ((L.length : Int) - (r : Int) - 1))), (0, .ref (ad 0))]) dX7_goesOn_52 0 rfl (by decide) rfl ?_
      refine j_iload_n F dX7_goesOn_55 rfl 1 rfl ?_
      refine j_iconst F dX7_goesOn_56 ?_
      refine j_iadd F dX7_goesOn_57 ?_
      refine J.top (congrArg iI (show (((L.length : Int) - (r : Int) - 1) + 1) = (((L.take (L.length - 1 - r) ++ [(L.getD (L.length - 1 - r) 0 - 1)]).length : Nat) : Int) from by have h9 := len_take (L := L) (h := (L.length - 1 - r)) (by omega); rw [List.length_append, h9]; show ((L.length : Int) - (r : Int) - 1) + 1 = (((L.length - 1 - r) + 1 : Nat) : Int); omega)) ?_
      refine j_istore F (lv' := [(4, .int (iI (((L.take (L.length - 1 - r) ++ [(L.getD (L.length - 1 - r) 0 - 1)]).length : Nat) : Int))), (3, .int (iI ((r : Int) + 1))), (2, .int (iI ((L.length : Int) - (r : Int) - 1))), (0, .ref (ad 0))]) dX7_goesOn_58 (by decide) rfl ?_
      refine J.loc [0, 1, 2, 3] rfl ?_
      refine J_loop (σ := List Nat × Nat × NF) (fun x9 : List Nat × Nat × NF => match x9 with | (pl, rs, f3) => (pl ++ fillM rs rs (L.getD (L.length - 1 - r) 0 - 1) = (nxL L (L.length - 1 - r)) ∧ L.length - 1 - r < pl.length) ∧ (∀ j, j < pl.length → f3 j = ((pl.getD j 0 : Nat) : Int)) ∧ (∀ j, pl.length ≤ j → j < 12 → f3 j = 0) ∧ f3 (L.length - 1 - r) = (((L.getD (L.length - 1 - r) 0 - 1) : Nat) : Int)) (fun x9 : List Nat × Nat × NF => match x9 with | (pl, rs, f3) => rs) (fun x9 : List Nat × Nat × NF => match x9 with | (pl, rs, f3) => moC g ad th cC cT (f3, cL.2.1, cL.2.2.1, cL.2.2.2.1, cL.2.2.2.2.1, cL.2.2.2.2.2.1, cL.2.2.2.2.2.2.1, cL.2.2.2.2.2.2.2) cP) (fun x9 : List Nat × Nat × NF => match x9 with | (pl, rs, f3) => [(4, .int (iI ((pl.length : Nat) : Int))), (3, .int (iI (rs : Int))), (2, .int (iI ((L.length : Int) - (r : Int) - 1))), (0, .ref (ad 0))]) ((L.take (L.length - 1 - r) ++ [(L.getD (L.length - 1 - r) 0 - 1)]), (r + 1), (nup f1 (L.length - 1 - r) (((L.getD (L.length - 1 - r) 0 - 1) : Nat) : Int))) (by show ((L.take (L.length - 1 - r) ++ [(L.getD (L.length - 1 - r) 0 - 1)]) ++ fillM (r + 1) (r + 1) (L.getD (L.length - 1 - r) 0 - 1) = (nxL L (L.length - 1 - r)) ∧ L.length - 1 - r < (L.take (L.length - 1 - r) ++ [(L.getD (L.length - 1 - r) 0 - 1)]).length) ∧ (∀ j, j < (L.take (L.length - 1 - r) ++ [(L.getD (L.length - 1 - r) 0 - 1)]).length → (nup f1 (L.length - 1 - r) (((L.getD (L.length - 1 - r) 0 - 1) : Nat) : Int)) j = (((L.take (L.length - 1 - r) ++ [(L.getD (L.length - 1 - r) 0 - 1)]).getD j 0 : Nat) : Int)) ∧ (∀ j, (L.take (L.length - 1 - r) ++ [(L.getD (L.length - 1 - r) 0 - 1)]).length ≤ j → j < 12 → (nup f1 (L.length - 1 - r) (((L.getD (L.length - 1 - r) 0 - 1) : Nat) : Int)) j = 0) ∧ (nup f1 (L.length - 1 - r) (((L.getD (L.length - 1 - r) 0 - 1) : Nat) : Int)) (L.length - 1 - r) = (((L.getD (L.length - 1 - r) 0 - 1) : Nat) : Int); exact go_0 hq i2 i3) ?_
      rintro ⟨pl, rs, f3⟩ hI ih60
      have hI : (pl ++ fillM rs rs (L.getD (L.length - 1 - r) 0 - 1) = (nxL L (L.length - 1 - r)) ∧ L.length - 1 - r < pl.length) ∧ (∀ j, j < pl.length → f3 j = ((pl.getD j 0 : Nat) : Int)) ∧ (∀ j, pl.length ≤ j → j < 12 → f3 j = 0) ∧ f3 (L.length - 1 - r) = (((L.getD (L.length - 1 - r) 0 - 1) : Nat) : Int) := hI
      obtain ⟨⟨n1, n2⟩, n3, n4, n5⟩ := hI
      have hrs : rs ≤ 12 := by have h9 := congrArg sm n1; rw [sm_app, (fillM_sm (m := (L.getD (L.length - 1 - r) 0 - 1)) (by omega) rs rs (Nat.le_refl _)).1] at h9; have := hL.2; omega
      refine j_iload_n F dX7_goesOn_60 rfl 1 rfl ?_
      refine j_if_le F (tgt := 107) dX7_goesOn_61 (by decide) (by unfold rg; omega) (fun c61 => ?_) (fun c61 => ?_)
      · have er0 : rs = 0 := by omega
        rw [er0, fillM, List.append_nil] at n1
        refine j_iconst F dX7_goesOn_107 ?_
        exact ret _ f3 0 0 _ _ dX7_goesOn_108 (by decide) (by decide) (Or.inr ⟨_, x1, by rw [← n1]; exact bhR_of n3 n4, x2, x3, rfl⟩)
      · have hpl : pl.length < 12 := by have h9 := congrArg List.length n1; rw [List.length_append, fillM_s (by omega) (show 1 ≤ rs by omega), List.length_cons] at h9; omega
        refine j_aload_n F dX7_goesOn_64 rfl 3 rfl ?_
        refine j_getf F (ref := "CairnGameModel") (C := RX7) (T := TX7) (N := 27) (ci := 7) (index := 37) (v := .ref (ad 14)) (fun w h => (List.mem_cons_of_mem _ (List.mem_append_right _ h))) 0 rfl rfl 14 (by decide) (List.mem_cons_of_mem _ (List.mem_append_left _ (List.mem_of_getElem? (i := 0) rfl))) rfl rfl dX7_goesOn_65 ?_
        refine j_iload F dX7_goesOn_68 0 rfl ?_
        refine j_iload_n F dX7_goesOn_70 rfl 1 rfl ?_
        refine j_aload_n F dX7_goesOn_71 rfl 3 rfl ?_
        refine j_getf F (ref := "CairnGameModel") (C := RX7) (T := TX7) (N := 27) (ci := 7) (index := 37) (v := .ref (ad 14)) (fun w h => (List.mem_cons_of_mem _ (List.mem_append_right _ h))) 0 rfl rfl 14 (by decide) (List.mem_cons_of_mem _ (List.mem_append_left _ (List.mem_of_getElem? (i := 0) rfl))) rfl rfl dX7_goesOn_72 ?_
        refine j_iload_n F dX7_goesOn_75 rfl 2 rfl ?_
        refine j_iald F 10 (n := 12) (f := f3) rfl (L.length - 1 - r) (by omega) (by omega) (by decide) dX7_goesOn_76 ?_
        refine J.top (congrArg iI (show f3 (L.length - 1 - r) = (((L.getD (L.length - 1 - r) 0 - 1) : Nat) : Int) from n5)) ?_
        refine j_icmp_ge F (tgt := 84) dX7_goesOn_77 (by decide) ⟨(by unfold rg; omega), (by unfold rg; omega)⟩ (fun c77 => ?_) (fun c77 => ?_)
        · refine j_aload_n F dX7_goesOn_84 rfl 3 rfl ?_
          refine j_getf F (ref := "CairnGameModel") (C := RX7) (T := TX7) (N := 27) (ci := 7) (index := 37) (v := .ref (ad 14)) (fun w h => (List.mem_cons_of_mem _ (List.mem_append_right _ h))) 0 rfl rfl 14 (by decide) (List.mem_cons_of_mem _ (List.mem_append_left _ (List.mem_of_getElem? (i := 0) rfl))) rfl rfl dX7_goesOn_85 ?_
          refine j_iload_n F dX7_goesOn_88 rfl 2 rfl ?_
          refine j_iald F 10 (n := 12) (f := f3) rfl (L.length - 1 - r) (by omega) (by omega) (by decide) dX7_goesOn_89 ?_
          refine J.top (congrArg iI (show f3 (L.length - 1 - r) = (((min rs (L.getD (L.length - 1 - r) 0 - 1)) : Nat) : Int) from by rw [n5]; omega)) ?_
          refine j_iast F (ws' := moC g ad th cC cT (nup f3 pl.length (((min rs (L.getD (L.length - 1 - r) 0 - 1)) : Nat) : Int), cL.2.1, cL.2.2.1, cL.2.2.2.1, cL.2.2.2.2.1, cL.2.2.2.2.2.1, cL.2.2.2.2.2.2.1, cL.2.2.2.2.2.2.2) cP) 10 (n := 12) (f := f3) rfl pl.length (by omega) (by omega) (by decide) rfl dX7_goesOn_90 ?_
          refine j_iload_n F dX7_goesOn_91 rfl 1 rfl ?_
          refine j_aload_n F dX7_goesOn_92 rfl 3 rfl ?_
          refine j_getf F (ref := "CairnGameModel") (C := RX7) (T := TX7) (N := 27) (ci := 7) (index := 37) (v := .ref (ad 14)) (fun w h => (List.mem_cons_of_mem _ (List.mem_append_right _ h))) 0 rfl rfl 14 (by decide) (List.mem_cons_of_mem _ (List.mem_append_left _ (List.mem_of_getElem? (i := 0) rfl))) rfl rfl dX7_goesOn_93 ?_
          refine j_iload F dX7_goesOn_96 0 rfl ?_
          refine j_iald F 10 (n := 12) (f := (nup f3 pl.length (((min rs (L.getD (L.length - 1 - r) 0 - 1)) : Nat) : Int))) rfl pl.length (by omega) (by omega) (by decide) dX7_goesOn_98 ?_
          refine J.top (congrArg iI (show (nup f3 pl.length (((min rs (L.getD (L.length - 1 - r) 0 - 1)) : Nat) : Int)) pl.length = (((min rs (L.getD (L.length - 1 - r) 0 - 1)) : Nat) : Int) from nup_s _ _ _)) ?_
          refine j_isub F dX7_goesOn_99 ?_
          refine J.top (congrArg iI (show ((rs : Int) - (((min rs (L.getD (L.length - 1 - r) 0 - 1)) : Nat) : Int)) = (((rs - min rs (L.getD (L.length - 1 - r) 0 - 1)) : Nat) : Int) from by omega)) ?_
          refine j_istore_n F (lv' := [(3, .int (iI (((rs - min rs (L.getD (L.length - 1 - r) 0 - 1)) : Nat) : Int))), (4, .int (iI ((pl.length : Nat) : Int))), (2, .int (iI ((L.length : Int) - (r : Int) - 1))), (0, .ref (ad 0))]) dX7_goesOn_100 rfl (by decide) rfl ?_
          refine j_iinc F (lv' := [(4, .int (iI (((pl.length : Nat) : Int) + 1))), (3, .int (iI (((rs - min rs (L.getD (L.length - 1 - r) 0 - 1)) : Nat) : Int))), (2, .int (iI ((L.length : Int) - (r : Int) - 1))), (0, .ref (ad 0))]) dX7_goesOn_101 1 rfl (by decide) rfl ?_
          refine J.lvEq (lv2 := [(4, .int (iI (((pl ++ [min rs (L.getD (L.length - 1 - r) 0 - 1)]).length : Nat) : Int))), (3, .int (iI (((rs - min rs (L.getD (L.length - 1 - r) 0 - 1)) : Nat) : Int))), (2, .int (iI ((L.length : Int) - (r : Int) - 1))), (0, .ref (ad 0))]) (by first | (rw [List.length_append]; rfl) | (dsimp only; rw [List.length_append]; rfl)) ?_
          refine j_goto F (tgt := 60) dX7_goesOn_104 (by decide) ?_
          refine J.loc [0, 1, 2, 3] rfl ?_
          exact ih60 ((pl ++ [min rs (L.getD (L.length - 1 - r) 0 - 1)]), (rs - min rs (L.getD (L.length - 1 - r) 0 - 1)), nup f3 pl.length (((min rs (L.getD (L.length - 1 - r) 0 - 1)) : Nat) : Int)) (by show ((pl ++ [min rs (L.getD (L.length - 1 - r) 0 - 1)]) ++ fillM (rs - min rs (L.getD (L.length - 1 - r) 0 - 1)) (rs - min rs (L.getD (L.length - 1 - r) 0 - 1)) (L.getD (L.length - 1 - r) 0 - 1) = (nxL L (L.length - 1 - r)) ∧ L.length - 1 - r < (pl ++ [min rs (L.getD (L.length - 1 - r) 0 - 1)]).length) ∧ (∀ j, j < (pl ++ [min rs (L.getD (L.length - 1 - r) 0 - 1)]).length → (nup f3 pl.length (((min rs (L.getD (L.length - 1 - r) 0 - 1)) : Nat) : Int)) j = (((pl ++ [min rs (L.getD (L.length - 1 - r) 0 - 1)]).getD j 0 : Nat) : Int)) ∧ (∀ j, (pl ++ [min rs (L.getD (L.length - 1 - r) 0 - 1)]).length ≤ j → j < 12 → (nup f3 pl.length (((min rs (L.getD (L.length - 1 - r) 0 - 1)) : Nat) : Int)) j = 0) ∧ (nup f3 pl.length (((min rs (L.getD (L.length - 1 - r) 0 - 1)) : Nat) : Int)) (L.length - 1 - r) = (((L.getD (L.length - 1 - r) 0 - 1) : Nat) : Int); exact ⟨⟨by rw [List.append_assoc, ← n1, fillM_s (by omega) (show 1 ≤ rs by omega)]; rfl, by rw [List.length_append]; omega⟩, fun j hj => (by rw [List.length_append] at hj; by_cases w : j = pl.length; (rw [w, nup_s, getD_app_r]); rw [nup_n _ _ w, getD_app_l (by simp only [List.length_cons, List.length_nil] at hj; omega)]; exact n3 j (by simp only [List.length_cons, List.length_nil] at hj; omega)), fun j a b => (by rw [List.length_append] at a; simp only [List.length_cons, List.length_nil] at a; rw [nup_n _ _ (by omega)]; exact n4 j (by omega) b), by rw [nup_n _ _ (by omega)]; exact n5⟩) (by show (rs - min rs (L.getD (L.length - 1 - r) 0 - 1)) < rs; omega)
        · refine j_iload_n F dX7_goesOn_80 rfl 1 rfl ?_
          refine J.top (congrArg iI (show (rs : Int) = (((min rs (L.getD (L.length - 1 - r) 0 - 1)) : Nat) : Int) from by omega)) ?_
          refine j_goto F (tgt := 90) dX7_goesOn_81 (by decide) ?_
          refine j_iast F (ws' := moC g ad th cC cT (nup f3 pl.length (((min rs (L.getD (L.length - 1 - r) 0 - 1)) : Nat) : Int), cL.2.1, cL.2.2.1, cL.2.2.2.1, cL.2.2.2.2.1, cL.2.2.2.2.2.1, cL.2.2.2.2.2.2.1, cL.2.2.2.2.2.2.2) cP) 10 (n := 12) (f := f3) rfl pl.length (by omega) (by omega) (by decide) rfl dX7_goesOn_90 ?_
          refine j_iload_n F dX7_goesOn_91 rfl 1 rfl ?_
          refine j_aload_n F dX7_goesOn_92 rfl 3 rfl ?_
          refine j_getf F (ref := "CairnGameModel") (C := RX7) (T := TX7) (N := 27) (ci := 7) (index := 37) (v := .ref (ad 14)) (fun w h => (List.mem_cons_of_mem _ (List.mem_append_right _ h))) 0 rfl rfl 14 (by decide) (List.mem_cons_of_mem _ (List.mem_append_left _ (List.mem_of_getElem? (i := 0) rfl))) rfl rfl dX7_goesOn_93 ?_
          refine j_iload F dX7_goesOn_96 0 rfl ?_
          refine j_iald F 10 (n := 12) (f := (nup f3 pl.length (((min rs (L.getD (L.length - 1 - r) 0 - 1)) : Nat) : Int))) rfl pl.length (by omega) (by omega) (by decide) dX7_goesOn_98 ?_
          refine J.top (congrArg iI (show (nup f3 pl.length (((min rs (L.getD (L.length - 1 - r) 0 - 1)) : Nat) : Int)) pl.length = (((min rs (L.getD (L.length - 1 - r) 0 - 1)) : Nat) : Int) from nup_s _ _ _)) ?_
          refine j_isub F dX7_goesOn_99 ?_
          refine J.top (congrArg iI (show ((rs : Int) - (((min rs (L.getD (L.length - 1 - r) 0 - 1)) : Nat) : Int)) = (((rs - min rs (L.getD (L.length - 1 - r) 0 - 1)) : Nat) : Int) from by omega)) ?_
          refine j_istore_n F (lv' := [(3, .int (iI (((rs - min rs (L.getD (L.length - 1 - r) 0 - 1)) : Nat) : Int))), (4, .int (iI ((pl.length : Nat) : Int))), (2, .int (iI ((L.length : Int) - (r : Int) - 1))), (0, .ref (ad 0))]) dX7_goesOn_100 rfl (by decide) rfl ?_
          refine j_iinc F (lv' := [(4, .int (iI (((pl.length : Nat) : Int) + 1))), (3, .int (iI (((rs - min rs (L.getD (L.length - 1 - r) 0 - 1)) : Nat) : Int))), (2, .int (iI ((L.length : Int) - (r : Int) - 1))), (0, .ref (ad 0))]) dX7_goesOn_101 1 rfl (by decide) rfl ?_
          refine J.lvEq (lv2 := [(4, .int (iI (((pl ++ [min rs (L.getD (L.length - 1 - r) 0 - 1)]).length : Nat) : Int))), (3, .int (iI (((rs - min rs (L.getD (L.length - 1 - r) 0 - 1)) : Nat) : Int))), (2, .int (iI ((L.length : Int) - (r : Int) - 1))), (0, .ref (ad 0))]) (by first | (rw [List.length_append]; rfl) | (dsimp only; rw [List.length_append]; rfl)) ?_
          refine j_goto F (tgt := 60) dX7_goesOn_104 (by decide) ?_
          refine J.loc [0, 1, 2, 3] rfl ?_
          exact ih60 ((pl ++ [min rs (L.getD (L.length - 1 - r) 0 - 1)]), (rs - min rs (L.getD (L.length - 1 - r) 0 - 1)), nup f3 pl.length (((min rs (L.getD (L.length - 1 - r) 0 - 1)) : Nat) : Int)) (by show ((pl ++ [min rs (L.getD (L.length - 1 - r) 0 - 1)]) ++ fillM (rs - min rs (L.getD (L.length - 1 - r) 0 - 1)) (rs - min rs (L.getD (L.length - 1 - r) 0 - 1)) (L.getD (L.length - 1 - r) 0 - 1) = (nxL L (L.length - 1 - r)) ∧ L.length - 1 - r < (pl ++ [min rs (L.getD (L.length - 1 - r) 0 - 1)]).length) ∧ (∀ j, j < (pl ++ [min rs (L.getD (L.length - 1 - r) 0 - 1)]).length → (nup f3 pl.length (((min rs (L.getD (L.length - 1 - r) 0 - 1)) : Nat) : Int)) j = (((pl ++ [min rs (L.getD (L.length - 1 - r) 0 - 1)]).getD j 0 : Nat) : Int)) ∧ (∀ j, (pl ++ [min rs (L.getD (L.length - 1 - r) 0 - 1)]).length ≤ j → j < 12 → (nup f3 pl.length (((min rs (L.getD (L.length - 1 - r) 0 - 1)) : Nat) : Int)) j = 0) ∧ (nup f3 pl.length (((min rs (L.getD (L.length - 1 - r) 0 - 1)) : Nat) : Int)) (L.length - 1 - r) = (((L.getD (L.length - 1 - r) 0 - 1) : Nat) : Int); exact ⟨⟨by rw [List.append_assoc, ← n1, fillM_s (by omega) (show 1 ≤ rs by omega)]; rfl, by rw [List.length_append]; omega⟩, fun j hj => (by rw [List.length_append] at hj; by_cases w : j = pl.length; (rw [w, nup_s, getD_app_r]); rw [nup_n _ _ w, getD_app_l (by simp only [List.length_cons, List.length_nil] at hj; omega)]; exact n3 j (by simp only [List.length_cons, List.length_nil] at hj; omega)), fun j a b => (by rw [List.length_append] at a; simp only [List.length_cons, List.length_nil] at a; rw [nup_n _ _ (by omega)]; exact n4 j (by omega) b), by rw [nup_n _ _ (by omega)]; exact n5⟩) (by show (rs - min rs (L.getD (L.length - 1 - r) 0 - 1)) < rs; omega)
    · refine j_iinc F (lv' := [(3, .int (iI ((r : Int) + 1))), (2, .int (iI ((L.length : Int) - (r : Int) - 1))), (0, .ref (ad 0))]) dX7_goesOn_20 0 rfl (by decide) rfl ?_
      refine j_aload_n F dX7_goesOn_23 rfl 2 rfl ?_
      refine j_getf F (ref := "CairnGameModel") (C := RX7) (T := TX7) (N := 27) (ci := 7) (index := 37) (v := .ref (ad 14)) (fun w h => (List.mem_cons_of_mem _ (List.mem_append_right _ h))) 0 rfl rfl 14 (by decide) (List.mem_cons_of_mem _ (List.mem_append_left _ (List.mem_of_getElem? (i := 0) rfl))) rfl rfl dX7_goesOn_24 ?_
      refine j_iload_n F dX7_goesOn_27 rfl 1 rfl ?_
      refine j_iconst F dX7_goesOn_28 ?_
      refine j_iast F (ws' := moC g ad th cC cT (nup f1 (L.length - 1 - r) 0, cL.2.1, cL.2.2.1, cL.2.2.2.1, cL.2.2.2.2.1, cL.2.2.2.2.2.1, cL.2.2.2.2.2.2.1, cL.2.2.2.2.2.2.2) cP) 10 (n := 12) (f := f1) rfl (L.length - 1 - r) (by omega) (by omega) (by decide) rfl dX7_goesOn_29 ?_
      refine j_iinc F (lv' := [(2, .int (iI (((L.length : Int) - (r : Int) - 1) + (-1)))), (3, .int (iI ((r : Int) + 1))), (0, .ref (ad 0))]) dX7_goesOn_30 1 rfl (by decide) rfl ?_
      refine J.lvEq (lv2 := [(2, .int (iI ((L.length : Int) - ((r + 1 : Nat) : Int) - 1))), (3, .int (iI ((r : Int) + 1))), (0, .ref (ad 0))]) (by first | (rw [show (((L.length : Int) - (r : Int) - 1) + (-1)) = ((L.length : Int) - ((r + 1 : Nat) : Int) - 1) by omega]) | (dsimp only; rw [show (((L.length : Int) - (r : Int) - 1) + (-1)) = ((L.length : Int) - ((r + 1 : Nat) : Int) - 1) by omega])) ?_
      refine j_goto F (tgt := 6) dX7_goesOn_33 (by decide) ?_
      refine J.loc [1, 0, 2] rfl ?_
      exact ih6 ((r + 1), nup f1 (L.length - 1 - r) 0) (by show (r + 1) ≤ L.length ∧ (∀ j, j < L.length - (r + 1) → (nup f1 (L.length - 1 - r) 0) j = ((L.getD j 0 : Nat) : Int)) ∧ (∀ j, L.length - (r + 1) ≤ j → j < 12 → (nup f1 (L.length - 1 - r) 0) j = 0) ∧ ∀ j, L.length - (r + 1) ≤ j → j < L.length → L.getD j 0 = 1; exact ⟨by omega, fun j hj => by rw [nup_n _ _ (by omega)]; exact i2 j (by omega), fun j a b => (by by_cases w : j = L.length - 1 - r; (rw [w, nup_s]); rw [nup_n _ _ w]; exact i3 j (by omega) b), fun j a b => (by by_cases w : j = L.length - 1 - r; (rw [w]; omega); exact i4 j (by omega) b)⟩) (by show L.length - (r + 1) < L.length - r; omega)

end X7K