/-! ===== MoveList: contracts ===== -/
section X1
def rep (f : Nat → Int) (L : List Nat) : Prop := ∀ i, i < L.length → f i = ((L.getD i 0 : Nat) : Int)
def m0 : Mv := (0, 0, 0)
/-- the rows of a list of moves of the heaps L, with the slots of the positions behind them -/
def mrepB (L : List Nat) (ms : List Mv) (k h m b : NF) : Prop := ∀ i, i < ms.length → k i = (((ms.getD i m0).1 : Nat) : Int) ∧ h i = (((ms.getD i m0).2.1 : Nat) : Int) ∧ m i = (((ms.getD i m0).2.2 : Nat) : Int) ∧ b i = ((slotL (apL L (ms.getD i m0).1 (ms.getD i m0).2.1 (ms.getD i m0).2.2) : Nat) : Int)
theorem getD_app_l {α : Type} {a b : List α} {d : α} {i : Nat} (h : i < a.length) : (a ++ b).getD i d = a.getD i d := by
  rw [List.getD_eq_getElem?_getD, List.getD_eq_getElem?_getD, List.getElem?_append_left h]
theorem getD_app_r {α : Type} {a : List α} {x d : α} : (a ++ [x]).getD a.length d = x := by
  rw [List.getD_eq_getElem?_getD, List.getElem?_append_right (Nat.le_refl _), Nat.sub_self]
  rfl
theorem mrepB_0 (L : List Nat) (k h m b : NF) : mrepB L [] k h m b := fun i hi => absurd hi (Nat.not_lt_zero i)
theorem mrepB_push {L : List Nat} {ms : List Mv} {k h m b : NF} (H : mrepB L ms k h m b) (x : Mv) {c : Nat} (hc : c = ms.length) {v0 v1 v2 v3 : Int} (h0 : v0 = (x.1 : Int)) (h1 : v1 = (x.2.1 : Int)) (h2 : v2 = (x.2.2 : Int)) (h3 : v3 = ((slotL (apL L x.1 x.2.1 x.2.2) : Nat) : Int)) : mrepB L (ms ++ [x]) (nup k c v0) (nup h c v1) (nup m c v2) (nup b c v3) := by
  intro i hi
  rw [List.length_append] at hi
  by_cases q : i = ms.length
  · subst q
    subst hc
    rw [getD_app_r, nup_s, nup_s, nup_s, nup_s]
    exact ⟨h0, h1, h2, h3⟩
  · have q2 : i < ms.length := by simp only [List.length_cons, List.length_nil] at hi; omega
    rw [getD_app_l q2, nup_n _ _ (by omega), nup_n _ _ (by omega), nup_n _ _ (by omega), nup_n _ _ (by omega)]
    exact H i q2
theorem wtI_N {x : Nat} (h : x < 13) : wtI (x : Int) = ((wtN x : Nat) : Int) := by
  unfold wtI
  rw [if_pos (by omega)]
  have e : ((x : Int)).toNat = x := by omega
  rw [e]
  have key : ∀ x, x < 13 → wtB x = ((wtN x : Nat) : Int) := by decide
  exact key x h
theorem slot_at {L : List Nat} {i : Nat} (h : i < L.length) : slotL L = wtN (L.getD i 0) + slotL (L.eraseIdx i) := (slotL_perm (ex_perm h)).symm
theorem slot_tk {L : List Nat} (hL : okH L) {i t : Nat} (hi : i < L.length) (ht : t ≤ L.getD i 0) : ((slotL L : Nat) : Int) - wtI ((L.getD i 0 : Nat) : Int) + wtI (((L.getD i 0 : Nat) : Int) - (t : Int)) = ((slotL (apL L 0 i t) : Nat) : Int) := by
  have h1 := okH_at hL hi
  have h2 := slot_at hi
  rw [show ((L.getD i 0 : Nat) : Int) - (t : Int) = ((L.getD i 0 - t : Nat) : Int) by omega, wtI_N (by omega), wtI_N (by omega), apL_0]
  by_cases q : L.getD i 0 - t = 0
  · rw [if_pos q, q]
    have : wtN 0 = 0 := rfl
    omega
  · rw [if_neg q, slotL_perm (set_perm _ hi)]
    have : slotL ((L.getD i 0 - t) :: L.eraseIdx i) = wtN (L.getD i 0 - t) + slotL (L.eraseIdx i) := rfl
    omega
theorem slot_sp {L : List Nat} (hL : okH L) {i t : Nat} (hi : i < L.length) (ht : t ≤ L.getD i 0) : ((slotL L : Nat) : Int) - wtI ((L.getD i 0 : Nat) : Int) + wtI (t : Int) + wtI (((L.getD i 0 : Nat) : Int) - (t : Int)) = ((slotL (apL L 1 i t) : Nat) : Int) := by
  have h1 := okH_at hL hi
  have h2 := slot_at hi
  rw [show ((L.getD i 0 : Nat) : Int) - (t : Int) = ((L.getD i 0 - t : Nat) : Int) by omega, wtI_N (by omega), wtI_N (by omega), wtI_N (by omega), apL_1, slotL_perm (spA_perm _ _ hi)]
  have : slotL (t :: (L.getD i 0 - t) :: L.eraseIdx i) = wtN t + (wtN (L.getD i 0 - t) + slotL (L.eraseIdx i)) := rfl
  omega
theorem slot_mg {L : List Nat} (hL : okH L) {i j : Nat} (hij : i < j) (hj : j < L.length) : ((slotL L : Nat) : Int) - wtI ((L.getD i 0 : Nat) : Int) - wtI ((L.getD j 0 : Nat) : Int) + wtI (((L.getD i 0 : Nat) : Int) + ((L.getD j 0 : Nat) : Int) - 1) = ((slotL (apL L 2 i j) : Nat) : Int) := by
  have hi : i < L.length := by omega
  have h1 := okH_at hL hi
  have h2 := okH_at hL hj
  have h3 := slot_at hj
  have hi2 : i < (L.eraseIdx j).length := by have := er_len hj; omega
  have h4 := slot_at hi2
  have f0 := sm_perm (ex_perm hj)
  have f3 := sm_perm (ex_perm hi2)
  rw [er_at, if_pos hij] at h4 f3
  rw [sm] at f0 f3
  have h12 := hL.2
  rw [show ((L.getD i 0 : Nat) : Int) + ((L.getD j 0 : Nat) : Int) - 1 = ((L.getD i 0 + L.getD j 0 - 1 : Nat) : Int) by omega, wtI_N (by omega), wtI_N (by omega), wtI_N (by omega), apL_2, Nat.min_eq_left (by omega), Nat.max_eq_right (by omega), slotL_perm (mg_perm _ L i j hij hj)]
  have : slotL ((L.getD i 0 + L.getD j 0 - 1) :: (L.eraseIdx j).eraseIdx i) = wtN (L.getD i 0 + L.getD j 0 - 1) + slotL ((L.eraseIdx j).eraseIdx i) := rfl
  omega
theorem sumW_slot {f : Nat → Int} {L : List Nat} (hr : rep f L) (hL : okH L) : sumW f L.length = ((slotL L : Nat) : Int) := by
  have key : ∀ n, n ≤ L.length → sumW f n = ((slotL (L.take n) : Nat) : Int) := by
    intro n
    induction n with
    | zero => intro _; rfl
    | succ n ih =>
      intro h
      have h1 := okH_at hL (i := n) (by omega)
      rw [sumW, ih (by omega), hr n (by omega), wtI_N (by omega)]
      have e : L.take (n + 1) = L.take n ++ [L.getD n 0] := by
        rw [List.take_succ, List.getD_eq_getElem?_getD, List.getElem?_eq_getElem (by omega)]
        rfl
      have e2 : ∀ (a : List Nat) (x : Nat), slotL (a ++ [x]) = slotL a + wtN x := by
        intro a x
        induction a with
        | nil => show wtN x + 0 = 0 + wtN x; omega
        | cons y a ih => show wtN y + slotL (a ++ [x]) = wtN y + slotL a + wtN x; omega
      rw [e, e2]
      omega
  have h := key L.length (Nat.le_refl _)
  rw [List.take_length] at h
  exact h
theorem rep_rg {f : Nat → Int} {L : List Nat} (hr : rep f L) (hL : okH L) : ∀ i, i < L.length → 0 ≤ f i ∧ f i ≤ 12 := fun i hi => by
  have h1 := okH_at hL hi
  rw [hr i hi]
  omega
theorem ap_slot_lt {g sp mg : Nat} {L : List Nat} {m : Mv} (hL : okH L) (hm : okM g sp mg L m) : slotL (apL L m.1 m.2.1 m.2.2) < 1024 := by
  have := slotL_lt (ap_ok hL hm).1
  omega

set_option maxHeartbeats 4000000 in
set_option maxRecDepth 100000 in
theorem c_X1_init {l : Launch} (hfl : l.flags = flags0) (D : va_G) (g : GT) (z : ZT) (a : Nat) : CV l yX1_init wsX1_init 2 40 0 D g z [.ref a] ([(a, .inr (1, [.null, .null, .null, .null, .int (iI 0)]))]) (fun (u9 : Nat × Nat × Nat × Nat) => True) (fun (u9 : Nat × Nat × Nat × Nat) => mlC g a u9.1 u9.2.1 u9.2.2.1 u9.2.2.2 0 (fun _ => 0) (fun _ => 0) (fun _ => 0) (fun _ => 0)) 4 336 := by
  refine CV_of hfl (own := RX1) ⟨1, 4, 336, 20⟩ 2 40 0 (by decide +kernel) rfl rfl ⟨by decide, by decide, by decide +kernel⟩ ⟨by decide, by decide⟩ (le_ble rfl) ?_
  intro p e s m below meth c A Q F hin ret
  change J p l e _ s m _ below meth c A D _ Q 0 0 ([(a, .inr (1, [.null, .null, .null, .null, .int (iI 0)]))]) [(0, .ref a)] [] 0
  refine j_aload_n F dX1_init_0 rfl 0 rfl ?_
  refine j_objInit F (List.mem_cons_of_mem _ (List.mem_append_left _ (List.mem_of_getElem? (i := 0) rfl))) (List.mem_cons_of_mem _ (List.mem_append_left _ (List.mem_of_getElem? (i := 1) rfl))) (List.mem_cons_of_mem _ (List.mem_append_left _ (List.mem_of_getElem? (i := 2) rfl))) (le_ble rfl) (by decide) (by decide) dX1_init_1 ?_
  refine j_aload_n F dX1_init_4 rfl 0 rfl ?_
  refine j_bipush F dX1_init_5 (by decide) ?_
  refine j_newa_i F (ws' := fun q7 => [(a, .inr (1, [.null, .null, .null, .null, .int (iI 0)]))] ++ ([(q7, iR g 84 (fun _ => 0))])) 84 rfl (by decide) (List.mem_cons_of_mem _ (List.mem_append_left _ (List.mem_of_getElem? (i := 3) rfl))) (by decide) (by decide) dX1_init_7 (fun _ => rfl) (fun q7 => ?_)
  refine j_putF F hin (ref := "CairnGame$MoveList") (C := RX1) (T := TX1) (N := 5) (ci := 1) (index := 9) (ty := (.array .int)) (ws' := [(a, .inr (1, [.ref q7, .null, .null, .null, .int (iI 0)]))] ++ ([(q7, iR g 84 (fun _ => 0))])) (fun w h => (List.mem_cons_of_mem _ (List.mem_append_right _ h))) tyX1 tyX1_ok nmX1 0 rfl rfl 0 (by decide) (List.mem_cons_of_mem _ (List.mem_append_left _ (List.mem_of_getElem? (i := 4) rfl))) rfl rfl rfl rfl rfl rfl (lt_ble rfl) rfl dX1_init_9 ?_
  refine j_aload_n F dX1_init_12 rfl 0 rfl ?_
  refine j_bipush F dX1_init_13 (by decide) ?_
  refine j_newa_i F (ws' := fun q15 => [(a, .inr (1, [.ref q7, .null, .null, .null, .int (iI 0)]))] ++ ([(q7, iR g 84 (fun _ => 0))] ++ ([(q15, iR g 84 (fun _ => 0))]))) 84 rfl (by decide) (List.mem_cons_of_mem _ (List.mem_append_left _ (List.mem_of_getElem? (i := 3) rfl))) (by decide) (by decide) dX1_init_15 (fun _ => rfl) (fun q15 => ?_)
  refine j_putF F hin (ref := "CairnGame$MoveList") (C := RX1) (T := TX1) (N := 5) (ci := 1) (index := 15) (ty := (.array .int)) (ws' := [(a, .inr (1, [.ref q7, .ref q15, .null, .null, .int (iI 0)]))] ++ ([(q7, iR g 84 (fun _ => 0))] ++ ([(q15, iR g 84 (fun _ => 0))]))) (fun w h => (List.mem_cons_of_mem _ (List.mem_append_right _ h))) tyX1 tyX1_ok nmX1 0 rfl rfl 1 (by decide) (List.mem_cons_of_mem _ (List.mem_append_left _ (List.mem_of_getElem? (i := 5) rfl))) rfl rfl rfl rfl rfl rfl (lt_ble rfl) rfl dX1_init_17 ?_
  refine j_aload_n F dX1_init_20 rfl 0 rfl ?_
  refine j_bipush F dX1_init_21 (by decide) ?_
  refine j_newa_i F (ws' := fun q23 => [(a, .inr (1, [.ref q7, .ref q15, .null, .null, .int (iI 0)]))] ++ ([(q7, iR g 84 (fun _ => 0))] ++ ([(q15, iR g 84 (fun _ => 0))] ++ ([(q23, iR g 84 (fun _ => 0))])))) 84 rfl (by decide) (List.mem_cons_of_mem _ (List.mem_append_left _ (List.mem_of_getElem? (i := 3) rfl))) (by decide) (by decide) dX1_init_23 (fun _ => rfl) (fun q23 => ?_)
  refine j_putF F hin (ref := "CairnGame$MoveList") (C := RX1) (T := TX1) (N := 5) (ci := 1) (index := 18) (ty := (.array .int)) (ws' := [(a, .inr (1, [.ref q7, .ref q15, .ref q23, .null, .int (iI 0)]))] ++ ([(q7, iR g 84 (fun _ => 0))] ++ ([(q15, iR g 84 (fun _ => 0))] ++ ([(q23, iR g 84 (fun _ => 0))])))) (fun w h => (List.mem_cons_of_mem _ (List.mem_append_right _ h))) tyX1 tyX1_ok nmX1 0 rfl rfl 2 (by decide) (List.mem_cons_of_mem _ (List.mem_append_left _ (List.mem_of_getElem? (i := 6) rfl))) rfl rfl rfl rfl rfl rfl (lt_ble rfl) rfl dX1_init_25 ?_
  refine j_aload_n F dX1_init_28 rfl 0 rfl ?_
  refine j_bipush F dX1_init_29 (by decide) ?_
  refine j_newa_i F (ws' := fun q31 => [(a, .inr (1, [.ref q7, .ref q15, .ref q23, .null, .int (iI 0)]))] ++ ([(q7, iR g 84 (fun _ => 0))] ++ ([(q15, iR g 84 (fun _ => 0))] ++ ([(q23, iR g 84 (fun _ => 0))] ++ ([(q31, iR g 84 (fun _ => 0))]))))) 84 rfl (by decide) (List.mem_cons_of_mem _ (List.mem_append_left _ (List.mem_of_getElem? (i := 3) rfl))) (by decide) (by decide) dX1_init_31 (fun _ => rfl) (fun q31 => ?_)
  refine j_putF F hin (ref := "CairnGame$MoveList") (C := RX1) (T := TX1) (N := 5) (ci := 1) (index := 21) (ty := (.array .int)) (ws' := [(a, .inr (1, [.ref q7, .ref q15, .ref q23, .ref q31, .int (iI 0)]))] ++ ([(q7, iR g 84 (fun _ => 0))] ++ ([(q15, iR g 84 (fun _ => 0))] ++ ([(q23, iR g 84 (fun _ => 0))] ++ ([(q31, iR g 84 (fun _ => 0))]))))) (fun w h => (List.mem_cons_of_mem _ (List.mem_append_right _ h))) tyX1 tyX1_ok nmX1 0 rfl rfl 3 (by decide) (List.mem_cons_of_mem _ (List.mem_append_left _ (List.mem_of_getElem? (i := 7) rfl))) rfl rfl rfl rfl rfl rfl (lt_ble rfl) rfl dX1_init_33 ?_
  refine j_aload_n F dX1_init_36 rfl 0 rfl ?_
  refine j_iconst F dX1_init_37 ?_
  refine j_putf F (ref := "CairnGame$MoveList") (C := RX1) (T := TX1) (N := 5) (ci := 1) (index := 24) (ty := .int) (ws' := [(a, .inr (1, [.ref q7, .ref q15, .ref q23, .ref q31, .int (iI 0)]))] ++ ([(q7, iR g 84 (fun _ => 0))] ++ ([(q15, iR g 84 (fun _ => 0))] ++ ([(q23, iR g 84 (fun _ => 0))] ++ ([(q31, iR g 84 (fun _ => 0))]))))) (fun w h => (List.mem_cons_of_mem _ (List.mem_append_right _ h))) tyX1 tyX1_ok nmX1 0 rfl rfl 4 (by decide) (List.mem_cons_of_mem _ (List.mem_append_left _ (List.mem_of_getElem? (i := 8) rfl))) rfl rfl rfl rfl rfl (lt_ble rfl) rfl dX1_init_38 ?_
  exact ret (q7, q15, q23, q31) 4 336 _ _ dX1_init_41 (by decide) (by decide) trivial

set_option maxHeartbeats 4000000 in
set_option maxRecDepth 100000 in
theorem c_X1_add {l : Launch} (hfl : l.flags = flags0) (D : va_G) (g : GT) (z : ZT) (a q1 q2 q3 q4 : Nat) (c0 c1 : Nat) (ka ha ma ba : NF) (kd hp am sb : Int) (hc : c0 < 84) (hc1 : c1 = c0 + 1) (hsb : 0 ≤ sb ∧ sb < 1024) : CV l yX1_add wsX1_add 1 24 4 D g z [.ref a, .int (iI kd), .int (iI hp), .int (iI am), .int (iI sb)] (mlC g a q1 q2 q3 q4 (c0 : Int) ka ha ma ba) (fun (u9 : Unit) => True) (fun (u9 : Unit) => mlC g a q1 q2 q3 q4 (c1 : Int) (nup ka c0 kd) (nup ha c0 hp) (nup ma c0 am) (nup ba c0 sb)) 0 0 := by
  refine CV_of hfl (own := RX1) ⟨0, 0, 0, 0⟩ 1 24 4 (by decide +kernel) rfl rfl ⟨by decide, by decide, by decide +kernel⟩ ⟨by decide, by decide⟩ (le_ble rfl) ?_
  intro p e s m below meth c A Q F hin ret
  change J p l e _ s m _ below meth c A D _ Q 0 0 (mlC g a q1 q2 q3 q4 (c0 : Int) ka ha ma ba) [(0, .ref a), (1, .int (iI kd)), (2, .int (iI hp)), (3, .int (iI am)), (4, .int (iI sb))] [] 0
  refine j_aload_n F dX1_add_0 rfl 0 rfl ?_
  refine j_getf F (ref := "CairnGame$MoveList") (C := RX1) (T := TX1) (N := 5) (ci := 1) (index := 24) (v := .int (iI (c0 : Int))) (fun w h => (List.mem_cons_of_mem _ (List.mem_append_right _ h))) 0 rfl rfl 4 (by decide) (List.mem_cons_of_mem _ (List.mem_append_left _ (List.mem_of_getElem? (i := 0) rfl))) rfl rfl dX1_add_1 ?_
  refine j_bipush F dX1_add_4 (by decide) ?_
  refine j_icmp_ge F (tgt := 64) dX1_add_6 (by decide) ⟨(by unfold rg; omega), (by unfold rg; omega)⟩ (fun h9 => absurd h9 (by omega)) (fun c6 => ?_)
  refine j_aload_n F dX1_add_9 rfl 0 rfl ?_
  refine j_getf F (ref := "CairnGame$MoveList") (C := RX1) (T := TX1) (N := 5) (ci := 1) (index := 9) (v := .ref q1) (fun w h => (List.mem_cons_of_mem _ (List.mem_append_right _ h))) 0 rfl rfl 0 (by decide) (List.mem_cons_of_mem _ (List.mem_append_left _ (List.mem_of_getElem? (i := 1) rfl))) rfl rfl dX1_add_10 ?_
  refine j_aload_n F dX1_add_13 rfl 0 rfl ?_
  refine j_getf F (ref := "CairnGame$MoveList") (C := RX1) (T := TX1) (N := 5) (ci := 1) (index := 24) (v := .int (iI (c0 : Int))) (fun w h => (List.mem_cons_of_mem _ (List.mem_append_right _ h))) 0 rfl rfl 4 (by decide) (List.mem_cons_of_mem _ (List.mem_append_left _ (List.mem_of_getElem? (i := 0) rfl))) rfl rfl dX1_add_14 ?_
  refine j_iload_n F dX1_add_17 rfl 1 rfl ?_
  refine j_iast F (ws' := mlC g a q1 q2 q3 q4 (c0 : Int) (nup ka c0 kd) ha ma ba) 1 (n := 84) (f := ka) rfl c0 (rfl) (by omega) (by decide) rfl dX1_add_18 ?_
  refine j_aload_n F dX1_add_19 rfl 0 rfl ?_
  refine j_getf F (ref := "CairnGame$MoveList") (C := RX1) (T := TX1) (N := 5) (ci := 1) (index := 15) (v := .ref q2) (fun w h => (List.mem_cons_of_mem _ (List.mem_append_right _ h))) 0 rfl rfl 1 (by decide) (List.mem_cons_of_mem _ (List.mem_append_left _ (List.mem_of_getElem? (i := 2) rfl))) rfl rfl dX1_add_20 ?_
  refine j_aload_n F dX1_add_23 rfl 0 rfl ?_
  refine j_getf F (ref := "CairnGame$MoveList") (C := RX1) (T := TX1) (N := 5) (ci := 1) (index := 24) (v := .int (iI (c0 : Int))) (fun w h => (List.mem_cons_of_mem _ (List.mem_append_right _ h))) 0 rfl rfl 4 (by decide) (List.mem_cons_of_mem _ (List.mem_append_left _ (List.mem_of_getElem? (i := 0) rfl))) rfl rfl dX1_add_24 ?_
  refine j_iload_n F dX1_add_27 rfl 2 rfl ?_
  refine j_iast F (ws' := mlC g a q1 q2 q3 q4 (c0 : Int) (nup ka c0 kd) (nup ha c0 hp) ma ba) 2 (n := 84) (f := ha) rfl c0 (rfl) (by omega) (by decide) rfl dX1_add_28 ?_
  refine j_aload_n F dX1_add_29 rfl 0 rfl ?_
  refine j_getf F (ref := "CairnGame$MoveList") (C := RX1) (T := TX1) (N := 5) (ci := 1) (index := 18) (v := .ref q3) (fun w h => (List.mem_cons_of_mem _ (List.mem_append_right _ h))) 0 rfl rfl 2 (by decide) (List.mem_cons_of_mem _ (List.mem_append_left _ (List.mem_of_getElem? (i := 3) rfl))) rfl rfl dX1_add_30 ?_
  refine j_aload_n F dX1_add_33 rfl 0 rfl ?_
  refine j_getf F (ref := "CairnGame$MoveList") (C := RX1) (T := TX1) (N := 5) (ci := 1) (index := 24) (v := .int (iI (c0 : Int))) (fun w h => (List.mem_cons_of_mem _ (List.mem_append_right _ h))) 0 rfl rfl 4 (by decide) (List.mem_cons_of_mem _ (List.mem_append_left _ (List.mem_of_getElem? (i := 0) rfl))) rfl rfl dX1_add_34 ?_
  refine j_iload_n F dX1_add_37 rfl 3 rfl ?_
  refine j_iast F (ws' := mlC g a q1 q2 q3 q4 (c0 : Int) (nup ka c0 kd) (nup ha c0 hp) (nup ma c0 am) ba) 3 (n := 84) (f := ma) rfl c0 (rfl) (by omega) (by decide) rfl dX1_add_38 ?_
  refine j_aload_n F dX1_add_39 rfl 0 rfl ?_
  refine j_getf F (ref := "CairnGame$MoveList") (C := RX1) (T := TX1) (N := 5) (ci := 1) (index := 21) (v := .ref q4) (fun w h => (List.mem_cons_of_mem _ (List.mem_append_right _ h))) 0 rfl rfl 3 (by decide) (List.mem_cons_of_mem _ (List.mem_append_left _ (List.mem_of_getElem? (i := 4) rfl))) rfl rfl dX1_add_40 ?_
  refine j_aload_n F dX1_add_43 rfl 0 rfl ?_
  refine j_getf F (ref := "CairnGame$MoveList") (C := RX1) (T := TX1) (N := 5) (ci := 1) (index := 24) (v := .int (iI (c0 : Int))) (fun w h => (List.mem_cons_of_mem _ (List.mem_append_right _ h))) 0 rfl rfl 4 (by decide) (List.mem_cons_of_mem _ (List.mem_append_left _ (List.mem_of_getElem? (i := 0) rfl))) rfl rfl dX1_add_44 ?_
  refine j_iload F dX1_add_47 4 rfl ?_
  refine j_sipush F dX1_add_49 (by decide) ?_
  refine j_iand1023 F dX1_add_52 (hsb) ?_
  refine j_iast F (ws' := mlC g a q1 q2 q3 q4 (c0 : Int) (nup ka c0 kd) (nup ha c0 hp) (nup ma c0 am) (nup ba c0 sb)) 4 (n := 84) (f := ba) rfl c0 (rfl) (by omega) (by decide) rfl dX1_add_53 ?_
  refine j_aload_n F dX1_add_54 rfl 0 rfl ?_
  refine j_dup F dX1_add_55 rfl ?_
  refine j_getf F (ref := "CairnGame$MoveList") (C := RX1) (T := TX1) (N := 5) (ci := 1) (index := 24) (v := .int (iI (c0 : Int))) (fun w h => (List.mem_cons_of_mem _ (List.mem_append_right _ h))) 0 rfl rfl 4 (by decide) (List.mem_cons_of_mem _ (List.mem_append_left _ (List.mem_of_getElem? (i := 0) rfl))) rfl rfl dX1_add_56 ?_
  refine j_iconst F dX1_add_59 ?_
  refine j_iadd F dX1_add_60 ?_
  refine J.top (congrArg iI (show ((c0 : Int) + 1) = (c1 : Int) from by omega)) ?_
  refine j_putf F (ref := "CairnGame$MoveList") (C := RX1) (T := TX1) (N := 5) (ci := 1) (index := 24) (ty := .int) (ws' := mlC g a q1 q2 q3 q4 (c1 : Int) (nup ka c0 kd) (nup ha c0 hp) (nup ma c0 am) (nup ba c0 sb)) (fun w h => (List.mem_cons_of_mem _ (List.mem_append_right _ h))) tyX1 tyX1_ok nmX1 0 rfl rfl 4 (by decide) (List.mem_cons_of_mem _ (List.mem_append_left _ (List.mem_of_getElem? (i := 0) rfl))) rfl rfl rfl rfl rfl (lt_ble rfl) rfl dX1_add_61 ?_
  exact ret () 0 0 _ _ dX1_add_64 (by decide) (by decide) trivial

theorem tkL_step {G : Nat} {L : List Nat} : ∀ {n i : Nat}, i < n → (tkL G L i).length + min (L.getD i 0) G ≤ (tkL G L n).length
  | 0, _, h => absurd h (Nat.not_lt_zero _)
  | n + 1, i, h => by
    rw [tkL, List.length_append, tkR_len]
    rcases Nat.lt_or_ge i n with q | q
    · have := tkL_step (G := G) (L := L) q; omega
    · rw [show i = n by omega]; omega
theorem spL_step {L : List Nat} : ∀ {n i : Nat}, i < n → (spL L i).length + L.getD i 0 / 2 ≤ (spL L n).length
  | 0, _, h => absurd h (Nat.not_lt_zero _)
  | n + 1, i, h => by
    rw [spL, List.length_append, spR_len]
    rcases Nat.lt_or_ge i n with q | q
    · have := spL_step (L := L) q; omega
    · rw [show i = n by omega]; omega
theorem mgL_step {N : Nat} : ∀ {n i : Nat}, i < n → (mgL N i).length + (N - 1 - i) ≤ (mgL N n).length
  | 0, _, h => absurd h (Nat.not_lt_zero _)
  | n + 1, i, h => by
    rw [mgL, List.length_append, mgR_len]
    rcases Nat.lt_or_ge i n with q | q
    · have := mgL_step (N := N) q; omega
    · rw [show i = n by omega]; omega

set_option maxHeartbeats 4000000 in
set_option maxRecDepth 100000 in
theorem c_X1_addTakes {l : Launch} (hfl : l.flags = flags0) (D : va_G) (g : GT) (z : ZT) (a q1 q2 q3 q4 : Nat) (sa sb sd : Nat) (L : List Nat) (G S M : Nat) (nm : Int) (f hh : NF) (ms : List Mv) (ka ha ma ba : NF) (hL : okH L) (hr : rep f L) (hG : 1 ≤ G ∧ G ≤ 5) (H : mrepB L ms ka ha ma ba) (hroom : ms.length + (tkL G L L.length).length ≤ 84) : CV l yX1_addTakes wsX1_addTakes 2 51 2 D g z [.ref a, .ref sa, .int (iI ((slotL L : Nat) : Int))] (stC g sa sb sd (L.length : Int) (G : Int) (S : Int) (M : Int) nm f hh ++ (mlC g a q1 q2 q3 q4 (ms.length : Int) ka ha ma ba)) (fun (u9 : NF × NF × NF × NF) => mrepB L (ms ++ tkL G L L.length) u9.1 u9.2.1 u9.2.2.1 u9.2.2.2) (fun (u9 : NF × NF × NF × NF) => stC g sa sb sd (L.length : Int) (G : Int) (S : Int) (M : Int) nm f hh ++ (mlC g a q1 q2 q3 q4 ((ms ++ tkL G L L.length).length : Int) u9.1 u9.2.1 u9.2.2.1 u9.2.2.2)) 0 0 := by
  refine CV_of hfl (own := RX1) ⟨1, 0, 0, 24⟩ 2 51 2 (by decide +kernel) rfl rfl ⟨by decide, by decide, by decide +kernel⟩ ⟨by decide, by decide⟩ (le_ble rfl) ?_
  intro p e s m below meth c A Q F hin ret
  change J p l e _ s m _ below meth c A D _ Q 0 0 (stC g sa sb sd (L.length : Int) (G : Int) (S : Int) (M : Int) nm f hh ++ (mlC g a q1 q2 q3 q4 (ms.length : Int) ka ha ma ba)) [(0, .ref a), (1, .ref sa), (2, .int (iI ((slotL L : Nat) : Int)))] [] 0
  have hlen := okH_len hL
  refine j_iconst F dX1_addTakes_0 ?_
  refine j_istore_n F (lv' := [(3, .int (iI 0)), (0, .ref a), (1, .ref sa), (2, .int (iI ((slotL L : Nat) : Int)))]) dX1_addTakes_1 rfl (by decide) rfl ?_
  refine J.loc [0, 1, 2, 3] rfl ?_
  refine J.wsEq (ws2 := stC g sa sb sd (L.length : Int) (G : Int) (S : Int) (M : Int) nm f hh ++ (mlC g a q1 q2 q3 q4 ((ms ++ tkL G L 0).length : Int) ka ha ma ba)) (by rw [tkL, List.append_nil]) ?_
  refine J_loop (σ := Nat × NF × NF × NF × NF) (fun x9 : Nat × NF × NF × NF × NF => match x9 with | (i, k1, h1, m1, b1) => i ≤ L.length ∧ mrepB L (ms ++ tkL G L i) k1 h1 m1 b1) (fun x9 : Nat × NF × NF × NF × NF => match x9 with | (i, k1, h1, m1, b1) => L.length - i) (fun x9 : Nat × NF × NF × NF × NF => match x9 with | (i, k1, h1, m1, b1) => stC g sa sb sd (L.length : Int) (G : Int) (S : Int) (M : Int) nm f hh ++ (mlC g a q1 q2 q3 q4 ((ms ++ tkL G L i).length : Int) k1 h1 m1 b1)) (fun x9 : Nat × NF × NF × NF × NF => match x9 with | (i, k1, h1, m1, b1) => [(3, .int (iI (i : Int))), (0, .ref a), (1, .ref sa), (2, .int (iI ((slotL L : Nat) : Int)))]) (0, ka, ha, ma, ba) (by show 0 ≤ L.length ∧ mrepB L (ms ++ tkL G L 0) ka ha ma ba; exact ⟨Nat.zero_le _, by rw [tkL, List.append_nil]; exact H⟩) ?_
  rintro ⟨i, k1, h1, m1, b1⟩ hI ih2
  have hI : i ≤ L.length ∧ mrepB L (ms ++ tkL G L i) k1 h1 m1 b1 := hI
  obtain ⟨hi, hm⟩ := hI
  refine j_iload_n F dX1_addTakes_2 rfl 0 rfl ?_
  refine j_aload_n F dX1_addTakes_3 rfl 2 rfl ?_
  refine j_getf F (ref := "CairnGame$State") (C := RX4) (T := TX4) (N := 7) (ci := 4) (index := 51) (v := .int (iI (L.length : Int))) (fun w h => (List.mem_cons_of_mem _ (List.mem_append_left _ (List.mem_append_right _ h)))) 0 rfl rfl 1 (by decide) (List.mem_cons_of_mem _ (List.mem_append_left _ (List.mem_append_left _ (List.mem_of_getElem? (i := 0) rfl)))) rfl rfl dX1_addTakes_4 ?_
  refine j_icmp_ge F (tgt := 79) dX1_addTakes_7 (by decide) ⟨(by unfold rg; omega), (by unfold rg; omega)⟩ (fun c7 => ?_) (fun c7 => ?_)
  · refine J.wsEq (ws2 := stC g sa sb sd (L.length : Int) (G : Int) (S : Int) (M : Int) nm f hh ++ (mlC g a q1 q2 q3 q4 ((ms ++ tkL G L L.length).length : Int) k1 h1 m1 b1)) (by rw [show i = L.length by omega]) ?_
    exact ret (k1, h1, m1, b1) 0 0 _ _ dX1_addTakes_79 (by decide) (by decide) (by rw [show i = L.length by omega] at hm; exact hm)
  · have hx := okH_at hL (i := i) (by omega)
    have hfi := hr i (by omega)
    refine j_aload_n F dX1_addTakes_10 rfl 2 rfl ?_
    refine j_getf F (ref := "CairnGame$State") (C := RX4) (T := TX4) (N := 7) (ci := 4) (index := 52) (v := .ref sb) (fun w h => (List.mem_cons_of_mem _ (List.mem_append_left _ (List.mem_append_right _ h)))) 0 rfl rfl 0 (by decide) (List.mem_cons_of_mem _ (List.mem_append_left _ (List.mem_append_left _ (List.mem_of_getElem? (i := 1) rfl)))) rfl rfl dX1_addTakes_11 ?_
    refine j_iload_n F dX1_addTakes_14 rfl 0 rfl ?_
    refine j_iald F 1 (n := 12) (f := f) rfl i (rfl) (by omega) (by decide) dX1_addTakes_15 ?_
    refine J.top (congrArg iI (show f i = (((L.getD i 0) : Nat) : Int) from hfi)) ?_
    refine j_istore F (lv' := [(4, .int (iI (((L.getD i 0) : Nat) : Int))), (3, .int (iI (i : Int))), (0, .ref a), (1, .ref sa), (2, .int (iI ((slotL L : Nat) : Int)))]) dX1_addTakes_16 (by decide) rfl ?_
    refine j_iload_n F dX1_addTakes_18 rfl 4 rfl ?_
    refine j_iload F dX1_addTakes_19 0 rfl ?_
    refine j_callSN_I F (As := [.int (iI (((L.getD i 0) : Nat) : Int))]) (wr := stC g sa sb sd (L.length : Int) (G : Int) (S : Int) (M : Int) nm f hh ++ (mlC g a q1 q2 q3 q4 ((ms ++ tkL G L i).length : Int) k1 h1 m1 b1)) (st := [.int (iI ((slotL L : Nat) : Int))]) (c_X6_weightOf hfl D g z ((L.getD i 0 : Nat) : Int) (by unfold rg; omega)) (idx := 55) (host := RX6) gX1_addTakes_X6_weightOf_n55 (by unfold nestWs; simp) (List.mem_cons_of_mem _ (List.mem_append_left _ (List.mem_append_left _ (List.mem_of_getElem? (i := 8) rfl)))) (List.mem_cons_of_mem _ (List.mem_append_left _ (List.mem_append_left _ (List.mem_of_getElem? (i := 7) rfl)))) rfl [] [0, 1, 2, 3, 4, 5, 6, 7] rfl rfl (by decide) (by decide) (by decide)  (by decide) (by decide) (le_ble rfl) ⟨by decide, by decide⟩ dX1_addTakes_21 ?_
    rintro r9 u9 rfl
    refine J.wsEq (ws2 := stC g sa sb sd (L.length : Int) (G : Int) (S : Int) (M : Int) nm f hh ++ (mlC g a q1 q2 q3 q4 ((ms ++ tkL G L i).length : Int) k1 h1 m1 b1)) rfl ?_
    refine j_isub F dX1_addTakes_24 ?_
    refine j_istore F (lv' := [(5, .int (iI (((slotL L : Nat) : Int) - wtI ((L.getD i 0 : Nat) : Int)))), (4, .int (iI (((L.getD i 0) : Nat) : Int))), (3, .int (iI (i : Int))), (0, .ref a), (1, .ref sa), (2, .int (iI ((slotL L : Nat) : Int)))]) dX1_addTakes_25 (by decide) rfl ?_
    refine j_iload F dX1_addTakes_27 1 rfl ?_
    refine j_aload_n F dX1_addTakes_29 rfl 4 rfl ?_
    refine j_getf F (ref := "CairnGame$State") (C := RX4) (T := TX4) (N := 7) (ci := 4) (index := 59) (v := .int (iI (G : Int))) (fun w h => (List.mem_cons_of_mem _ (List.mem_append_left _ (List.mem_append_right _ h)))) 0 rfl rfl 2 (by decide) (List.mem_cons_of_mem _ (List.mem_append_left _ (List.mem_append_left _ (List.mem_of_getElem? (i := 2) rfl)))) rfl rfl dX1_addTakes_30 ?_
    refine j_mmin F (List.mem_cons_of_mem _ (List.mem_append_left _ (List.mem_append_left _ (List.mem_of_getElem? (i := 3) rfl)))) (List.mem_cons_of_mem _ (List.mem_append_left _ (List.mem_append_left _ (List.mem_of_getElem? (i := 4) rfl)))) (List.mem_cons_of_mem _ (List.mem_append_left _ (List.mem_append_left _ (List.mem_of_getElem? (i := 5) rfl)))) (List.mem_cons_of_mem _ (List.mem_append_left _ (List.mem_append_left _ (List.mem_of_getElem? (i := 6) rfl)))) ⟨(by unfold rg; omega), (by unfold rg; omega)⟩ (le_ble rfl) (by decide) (by decide) (by decide) (by decide) dX1_addTakes_33 ?_
    refine J.top (congrArg iI (show (min (((L.getD i 0) : Nat) : Int) (G : Int)) = (((min (L.getD i 0) G) : Nat) : Int) from by omega)) ?_
    refine j_istore F (lv' := [(6, .int (iI (((min (L.getD i 0) G) : Nat) : Int))), (5, .int (iI (((slotL L : Nat) : Int) - wtI ((L.getD i 0 : Nat) : Int)))), (4, .int (iI (((L.getD i 0) : Nat) : Int))), (3, .int (iI (i : Int))), (0, .ref a), (1, .ref sa), (2, .int (iI ((slotL L : Nat) : Int)))]) dX1_addTakes_36 (by decide) rfl ?_
    refine j_iconst F dX1_addTakes_38 ?_
    refine j_istore F (lv' := [(7, .int (iI 1)), (6, .int (iI (((min (L.getD i 0) G) : Nat) : Int))), (5, .int (iI (((slotL L : Nat) : Int) - wtI ((L.getD i 0 : Nat) : Int)))), (4, .int (iI (((L.getD i 0) : Nat) : Int))), (3, .int (iI (i : Int))), (0, .ref a), (1, .ref sa), (2, .int (iI ((slotL L : Nat) : Int)))]) dX1_addTakes_39 (by decide) rfl ?_
    refine J.loc [0, 1, 2, 3, 4, 5, 6, 7] rfl ?_
    refine J.wsEq (ws2 := stC g sa sb sd (L.length : Int) (G : Int) (S : Int) (M : Int) nm f hh ++ (mlC g a q1 q2 q3 q4 ((ms ++ tkL G L i ++ tkR i 0).length : Int) k1 h1 m1 b1)) (by rw [tkR, List.append_nil]) ?_
    refine J_loop (σ := Nat × NF × NF × NF × NF) (fun x9 : Nat × NF × NF × NF × NF => match x9 with | (t, k2, h2, m2, b2) => t ≤ min (L.getD i 0) G ∧ mrepB L (ms ++ tkL G L i ++ tkR i t) k2 h2 m2 b2) (fun x9 : Nat × NF × NF × NF × NF => match x9 with | (t, k2, h2, m2, b2) => min (L.getD i 0) G - t) (fun x9 : Nat × NF × NF × NF × NF => match x9 with | (t, k2, h2, m2, b2) => stC g sa sb sd (L.length : Int) (G : Int) (S : Int) (M : Int) nm f hh ++ (mlC g a q1 q2 q3 q4 ((ms ++ tkL G L i ++ tkR i t).length : Int) k2 h2 m2 b2)) (fun x9 : Nat × NF × NF × NF × NF => match x9 with | (t, k2, h2, m2, b2) => [(7, .int (iI ((t : Int) + 1))), (6, .int (iI (((min (L.getD i 0) G) : Nat) : Int))), (5, .int (iI (((slotL L : Nat) : Int) - wtI ((L.getD i 0 : Nat) : Int)))), (4, .int (iI (((L.getD i 0) : Nat) : Int))), (3, .int (iI (i : Int))), (0, .ref a), (1, .ref sa), (2, .int (iI ((slotL L : Nat) : Int)))]) (0, k1, h1, m1, b1) (by show 0 ≤ min (L.getD i 0) G ∧ mrepB L (ms ++ tkL G L i ++ tkR i 0) k1 h1 m1 b1; exact ⟨Nat.zero_le _, by rw [tkR, List.append_nil]; exact hm⟩) ?_
    rintro ⟨t, k2, h2, m2, b2⟩ hI ih41
    have hI : t ≤ min (L.getD i 0) G ∧ mrepB L (ms ++ tkL G L i ++ tkR i t) k2 h2 m2 b2 := hI
    obtain ⟨ht, hm2⟩ := hI
    refine j_iload F dX1_addTakes_41 0 rfl ?_
    refine j_iload F dX1_addTakes_43 1 rfl ?_
    refine j_icmp_gt F (tgt := 73) dX1_addTakes_45 (by decide) ⟨(by unfold rg; omega), (by unfold rg; omega)⟩ (fun c45 => ?_) (fun c45 => ?_)
    · have et : t = min (L.getD i 0) G := by omega
      have hmE : mrepB L (ms ++ tkL G L (i + 1)) k2 h2 m2 b2 := by rw [tkL, ← List.append_assoc, ← et]; exact hm2
      refine J.wsEq (ws2 := stC g sa sb sd (L.length : Int) (G : Int) (S : Int) (M : Int) nm f hh ++ (mlC g a q1 q2 q3 q4 ((ms ++ tkL G L (i + 1)).length : Int) k2 h2 m2 b2)) (by rw [tkL, ← List.append_assoc, ← et]) ?_
      refine j_iinc F (lv' := [(3, .int (iI ((i : Int) + 1))), (7, .int (iI ((t : Int) + 1))), (6, .int (iI (((min (L.getD i 0) G) : Nat) : Int))), (5, .int (iI (((slotL L : Nat) : Int) - wtI ((L.getD i 0 : Nat) : Int)))), (4, .int (iI (((L.getD i 0) : Nat) : Int))), (0, .ref a), (1, .ref sa), (2, .int (iI ((slotL L : Nat) : Int)))]) dX1_addTakes_73 4 rfl (by decide) rfl ?_
      refine j_goto F (tgt := 2) dX1_addTakes_76 (by decide) ?_
      refine J.loc [0, 5, 6, 7] rfl ?_
      exact ih2 ((i + 1), k2, h2, m2, b2) (by show (i + 1) ≤ L.length ∧ mrepB L (ms ++ tkL G L (i + 1)) k2 h2 m2 b2; exact ⟨by omega, hmE⟩) (by show L.length - (i + 1) < L.length - i; omega)
    · have hroom2 : (ms ++ tkL G L i ++ tkR i t).length < 84 := by have h8 := tkL_step (G := G) (L := L) (n := L.length) (i := i) (by omega); simp only [List.length_append, tkR_len] at *; omega
      refine j_aload_n F dX1_addTakes_48 rfl 5 rfl ?_
      refine j_iconst F dX1_addTakes_49 ?_
      refine j_iload_n F dX1_addTakes_50 rfl 4 rfl ?_
      refine j_iload F dX1_addTakes_51 0 rfl ?_
      refine j_iload F dX1_addTakes_53 2 rfl ?_
      refine j_iload F dX1_addTakes_55 3 rfl ?_
      refine j_iload F dX1_addTakes_57 0 rfl ?_
      refine j_isub F dX1_addTakes_59 ?_
      refine j_callSN_I F (As := [.int (iI ((((L.getD i 0) : Nat) : Int) - ((t : Int) + 1)))]) (wr := stC g sa sb sd (L.length : Int) (G : Int) (S : Int) (M : Int) nm f hh ++ (mlC g a q1 q2 q3 q4 ((ms ++ tkL G L i ++ tkR i t).length : Int) k2 h2 m2 b2)) (st := [.int (iI (((slotL L : Nat) : Int) - wtI ((L.getD i 0 : Nat) : Int))), .int (iI ((t : Int) + 1)), .int (iI (i : Int)), .int (iI 0), .ref a]) (c_X6_weightOf hfl D g z (((L.getD i 0 : Nat) : Int) - ((t : Int) + 1)) (by unfold rg; omega)) (idx := 55) (host := RX6) gX1_addTakes_X6_weightOf_n55 (by unfold nestWs; simp) (List.mem_cons_of_mem _ (List.mem_append_left _ (List.mem_append_left _ (List.mem_of_getElem? (i := 8) rfl)))) (List.mem_cons_of_mem _ (List.mem_append_left _ (List.mem_append_left _ (List.mem_of_getElem? (i := 7) rfl)))) rfl [] [0, 1, 2, 3, 4, 5, 6, 7] rfl rfl (by decide) (by decide) (by decide)  (by decide) (by decide) (le_ble rfl) ⟨by decide, by decide⟩ dX1_addTakes_60 ?_
      rintro r9 u9 rfl
      refine J.wsEq (ws2 := stC g sa sb sd (L.length : Int) (G : Int) (S : Int) (M : Int) nm f hh ++ (mlC g a q1 q2 q3 q4 ((ms ++ tkL G L i ++ tkR i t).length : Int) k2 h2 m2 b2)) rfl ?_
      refine j_iadd F dX1_addTakes_63 ?_
      refine j_callV_V F (As := [.int (iI 0), .int (iI (i : Int)), .int (iI ((t : Int) + 1)), .int (iI ((((slotL L : Nat) : Int) - wtI ((L.getD i 0 : Nat) : Int)) + wtI (((L.getD i 0 : Nat) : Int) - ((t : Int) + 1))))]) (wr := stC g sa sb sd (L.length : Int) (G : Int) (S : Int) (M : Int) nm f hh) (st := []) (c_X1_add hfl D g z a q1 q2 q3 q4 (ms ++ tkL G L i ++ tkR i t).length (ms ++ tkL G L i ++ tkR i (t + 1)).length k2 h2 m2 b2 0 (i : Int) ((t : Int) + 1) ((((slotL L : Nat) : Int) - wtI ((L.getD i 0 : Nat) : Int)) + wtI (((L.getD i 0 : Nat) : Int) - ((t : Int) + 1))) (by have := hroom2; omega) (by rw [tkR, ← List.append_assoc]; rw [List.length_append (as := ms ++ tkL G L i ++ tkR i t)]; rfl) (by have h7 := slot_tk hL (i := i) (t := t + 1) (by omega) (by omega); rw [show (((t + 1 : Nat)) : Int) = (t : Int) + 1 from rfl] at h7; have h8 := ap_slot_lt (g := G) (sp := 0) (mg := 0) (m := (0, i, t + 1)) hL ⟨by show i < L.length; omega, Or.inl ⟨rfl, by show 1 ≤ t + 1; omega, by show t + 1 ≤ L.getD i 0; omega, by show t + 1 ≤ G; omega⟩⟩; dsimp only at h8; omega)) (idx := 68) (C := RX1) gX1_addTakes_X1_add rfl rfl [3, 4, 5, 6, 7] [0, 1, 2] rfl rfl (by decide) (by decide) (by decide) (ci := 1) (q0 := 0) rfl rfl (by decide) (by decide) (le_ble rfl) ⟨by decide, by decide⟩ dX1_addTakes_64 ?_
      rintro u9 h9
      refine J.wsEq (ws2 := stC g sa sb sd (L.length : Int) (G : Int) (S : Int) (M : Int) nm f hh ++ (mlC g a q1 q2 q3 q4 ((ms ++ tkL G L i ++ tkR i (t + 1)).length : Int) (nup k2 (ms ++ tkL G L i ++ tkR i t).length 0) (nup h2 (ms ++ tkL G L i ++ tkR i t).length (i : Int)) (nup m2 (ms ++ tkL G L i ++ tkR i t).length ((t : Int) + 1)) (nup b2 (ms ++ tkL G L i ++ tkR i t).length ((((slotL L : Nat) : Int) - wtI ((L.getD i 0 : Nat) : Int)) + wtI (((L.getD i 0 : Nat) : Int) - ((t : Int) + 1)))))) rfl ?_
      refine j_iinc F (lv' := [(7, .int (iI (((t : Int) + 1) + 1))), (6, .int (iI (((min (L.getD i 0) G) : Nat) : Int))), (5, .int (iI (((slotL L : Nat) : Int) - wtI ((L.getD i 0 : Nat) : Int)))), (4, .int (iI (((L.getD i 0) : Nat) : Int))), (3, .int (iI (i : Int))), (0, .ref a), (1, .ref sa), (2, .int (iI ((slotL L : Nat) : Int)))]) dX1_addTakes_67 0 rfl (by decide) rfl ?_
      refine j_goto F (tgt := 41) dX1_addTakes_70 (by decide) ?_
      refine J.loc [0, 1, 2, 3, 4, 5, 6, 7] rfl ?_
      exact ih41 ((t + 1), (nup k2 (ms ++ tkL G L i ++ tkR i t).length 0), (nup h2 (ms ++ tkL G L i ++ tkR i t).length (i : Int)), (nup m2 (ms ++ tkL G L i ++ tkR i t).length ((t : Int) + 1)), (nup b2 (ms ++ tkL G L i ++ tkR i t).length ((((slotL L : Nat) : Int) - wtI ((L.getD i 0 : Nat) : Int)) + wtI (((L.getD i 0 : Nat) : Int) - ((t : Int) + 1))))) (by show (t + 1) ≤ min (L.getD i 0) G ∧ mrepB L (ms ++ tkL G L i ++ tkR i (t + 1)) (nup k2 (ms ++ tkL G L i ++ tkR i t).length 0) (nup h2 (ms ++ tkL G L i ++ tkR i t).length (i : Int)) (nup m2 (ms ++ tkL G L i ++ tkR i t).length ((t : Int) + 1)) (nup b2 (ms ++ tkL G L i ++ tkR i t).length ((((slotL L : Nat) : Int) - wtI ((L.getD i 0 : Nat) : Int)) + wtI (((L.getD i 0 : Nat) : Int) - ((t : Int) + 1)))); exact ⟨by omega, by rw [tkR, ← List.append_assoc]; exact mrepB_push hm2 (0, i, t + 1) rfl rfl rfl rfl (slot_tk hL (i := i) (t := t + 1) (by omega) (by omega))⟩) (by show min (L.getD i 0) G - (t + 1) < min (L.getD i 0) G - t; omega)

set_option maxHeartbeats 4000000 in
set_option maxRecDepth 100000 in
theorem c_X1_addSplits {l : Launch} (hfl : l.flags = flags0) (D : va_G) (g : GT) (z : ZT) (a q1 q2 q3 q4 : Nat) (sa sb sd : Nat) (L : List Nat) (G S M : Nat) (nm : Int) (f hh : NF) (ms : List Mv) (ka ha ma ba : NF) (hL : okH L) (hr : rep f L) (hG : 1 ≤ G ∧ G ≤ 5) (H : mrepB L ms ka ha ma ba) (hroom : ms.length + (spL L L.length).length ≤ 84) : CV l yX1_addSplits wsX1_addSplits 2 50 2 D g z [.ref a, .ref sa, .int (iI ((slotL L : Nat) : Int))] (stC g sa sb sd (L.length : Int) (G : Int) (S : Int) (M : Int) nm f hh ++ (mlC g a q1 q2 q3 q4 (ms.length : Int) ka ha ma ba)) (fun (u9 : NF × NF × NF × NF) => mrepB L (ms ++ spL L L.length) u9.1 u9.2.1 u9.2.2.1 u9.2.2.2) (fun (u9 : NF × NF × NF × NF) => stC g sa sb sd (L.length : Int) (G : Int) (S : Int) (M : Int) nm f hh ++ (mlC g a q1 q2 q3 q4 ((ms ++ spL L L.length).length : Int) u9.1 u9.2.1 u9.2.2.1 u9.2.2.2)) 0 0 := by
  refine CV_of hfl (own := RX1) ⟨1, 0, 0, 24⟩ 2 50 2 (by decide +kernel) rfl rfl ⟨by decide, by decide, by decide +kernel⟩ ⟨by decide, by decide⟩ (le_ble rfl) ?_
  intro p e s m below meth c A Q F hin ret
  change J p l e _ s m _ below meth c A D _ Q 0 0 (stC g sa sb sd (L.length : Int) (G : Int) (S : Int) (M : Int) nm f hh ++ (mlC g a q1 q2 q3 q4 (ms.length : Int) ka ha ma ba)) [(0, .ref a), (1, .ref sa), (2, .int (iI ((slotL L : Nat) : Int)))] [] 0
  have hlen := okH_len hL
  refine j_iconst F dX1_addSplits_0 ?_
  refine j_istore_n F (lv' := [(3, .int (iI 0)), (0, .ref a), (1, .ref sa), (2, .int (iI ((slotL L : Nat) : Int)))]) dX1_addSplits_1 rfl (by decide) rfl ?_
  refine J.loc [0, 1, 2, 3] rfl ?_
  refine J.wsEq (ws2 := stC g sa sb sd (L.length : Int) (G : Int) (S : Int) (M : Int) nm f hh ++ (mlC g a q1 q2 q3 q4 ((ms ++ spL L 0).length : Int) ka ha ma ba)) (by rw [spL, List.append_nil]) ?_
  refine J_loop (σ := Nat × NF × NF × NF × NF) (fun x9 : Nat × NF × NF × NF × NF => match x9 with | (i, k1, h1, m1, b1) => i ≤ L.length ∧ mrepB L (ms ++ spL L i) k1 h1 m1 b1) (fun x9 : Nat × NF × NF × NF × NF => match x9 with | (i, k1, h1, m1, b1) => L.length - i) (fun x9 : Nat × NF × NF × NF × NF => match x9 with | (i, k1, h1, m1, b1) => stC g sa sb sd (L.length : Int) (G : Int) (S : Int) (M : Int) nm f hh ++ (mlC g a q1 q2 q3 q4 ((ms ++ spL L i).length : Int) k1 h1 m1 b1)) (fun x9 : Nat × NF × NF × NF × NF => match x9 with | (i, k1, h1, m1, b1) => [(3, .int (iI (i : Int))), (0, .ref a), (1, .ref sa), (2, .int (iI ((slotL L : Nat) : Int)))]) (0, ka, ha, ma, ba) (by show 0 ≤ L.length ∧ mrepB L (ms ++ spL L 0) ka ha ma ba; exact ⟨Nat.zero_le _, by rw [spL, List.append_nil]; exact H⟩) ?_
  rintro ⟨i, k1, h1, m1, b1⟩ hI ih2
  have hI : i ≤ L.length ∧ mrepB L (ms ++ spL L i) k1 h1 m1 b1 := hI
  obtain ⟨hi, hm⟩ := hI
  refine j_iload_n F dX1_addSplits_2 rfl 0 rfl ?_
  refine j_aload_n F dX1_addSplits_3 rfl 2 rfl ?_
  refine j_getf F (ref := "CairnGame$State") (C := RX4) (T := TX4) (N := 7) (ci := 4) (index := 51) (v := .int (iI (L.length : Int))) (fun w h => (List.mem_cons_of_mem _ (List.mem_append_left _ (List.mem_append_right _ h)))) 0 rfl rfl 1 (by decide) (List.mem_cons_of_mem _ (List.mem_append_left _ (List.mem_append_left _ (List.mem_of_getElem? (i := 0) rfl)))) rfl rfl dX1_addSplits_4 ?_
  refine j_icmp_ge F (tgt := 77) dX1_addSplits_7 (by decide) ⟨(by unfold rg; omega), (by unfold rg; omega)⟩ (fun c7 => ?_) (fun c7 => ?_)
  · refine J.wsEq (ws2 := stC g sa sb sd (L.length : Int) (G : Int) (S : Int) (M : Int) nm f hh ++ (mlC g a q1 q2 q3 q4 ((ms ++ spL L L.length).length : Int) k1 h1 m1 b1)) (by rw [show i = L.length by omega]) ?_
    exact ret (k1, h1, m1, b1) 0 0 _ _ dX1_addSplits_77 (by decide) (by decide) (by rw [show i = L.length by omega] at hm; exact hm)
  · have hx := okH_at hL (i := i) (by omega)
    have hfi := hr i (by omega)
    refine j_aload_n F dX1_addSplits_10 rfl 2 rfl ?_
    refine j_getf F (ref := "CairnGame$State") (C := RX4) (T := TX4) (N := 7) (ci := 4) (index := 52) (v := .ref sb) (fun w h => (List.mem_cons_of_mem _ (List.mem_append_left _ (List.mem_append_right _ h)))) 0 rfl rfl 0 (by decide) (List.mem_cons_of_mem _ (List.mem_append_left _ (List.mem_append_left _ (List.mem_of_getElem? (i := 1) rfl)))) rfl rfl dX1_addSplits_11 ?_
    refine j_iload_n F dX1_addSplits_14 rfl 0 rfl ?_
    refine j_iald F 1 (n := 12) (f := f) rfl i (rfl) (by omega) (by decide) dX1_addSplits_15 ?_
    refine J.top (congrArg iI (show f i = (((L.getD i 0) : Nat) : Int) from hfi)) ?_
    refine j_istore F (lv' := [(4, .int (iI (((L.getD i 0) : Nat) : Int))), (3, .int (iI (i : Int))), (0, .ref a), (1, .ref sa), (2, .int (iI ((slotL L : Nat) : Int)))]) dX1_addSplits_16 (by decide) rfl ?_
    refine j_iload_n F dX1_addSplits_18 rfl 4 rfl ?_
    refine j_iload F dX1_addSplits_19 0 rfl ?_
    refine j_callSN_I F (As := [.int (iI (((L.getD i 0) : Nat) : Int))]) (wr := stC g sa sb sd (L.length : Int) (G : Int) (S : Int) (M : Int) nm f hh ++ (mlC g a q1 q2 q3 q4 ((ms ++ spL L i).length : Int) k1 h1 m1 b1)) (st := [.int (iI ((slotL L : Nat) : Int))]) (c_X6_weightOf hfl D g z ((L.getD i 0 : Nat) : Int) (by unfold rg; omega)) (idx := 55) (host := RX6) gX1_addSplits_X6_weightOf_n55 (by unfold nestWs; simp) (List.mem_cons_of_mem _ (List.mem_append_left _ (List.mem_append_left _ (List.mem_of_getElem? (i := 3) rfl)))) (List.mem_cons_of_mem _ (List.mem_append_left _ (List.mem_append_left _ (List.mem_of_getElem? (i := 2) rfl)))) rfl [] [0, 1, 2, 3, 4, 5, 6, 7] rfl rfl (by decide) (by decide) (by decide)  (by decide) (by decide) (le_ble rfl) ⟨by decide, by decide⟩ dX1_addSplits_21 ?_
    rintro r9 u9 rfl
    refine J.wsEq (ws2 := stC g sa sb sd (L.length : Int) (G : Int) (S : Int) (M : Int) nm f hh ++ (mlC g a q1 q2 q3 q4 ((ms ++ spL L i).length : Int) k1 h1 m1 b1)) rfl ?_
    refine j_isub F dX1_addSplits_24 ?_
    refine j_istore F (lv' := [(5, .int (iI (((slotL L : Nat) : Int) - wtI ((L.getD i 0 : Nat) : Int)))), (4, .int (iI (((L.getD i 0) : Nat) : Int))), (3, .int (iI (i : Int))), (0, .ref a), (1, .ref sa), (2, .int (iI ((slotL L : Nat) : Int)))]) dX1_addSplits_25 (by decide) rfl ?_
    refine j_iconst F dX1_addSplits_27 ?_
    refine j_istore F (lv' := [(6, .int (iI 1)), (5, .int (iI (((slotL L : Nat) : Int) - wtI ((L.getD i 0 : Nat) : Int)))), (4, .int (iI (((L.getD i 0) : Nat) : Int))), (3, .int (iI (i : Int))), (0, .ref a), (1, .ref sa), (2, .int (iI ((slotL L : Nat) : Int)))]) dX1_addSplits_28 (by decide) rfl ?_
    refine J.loc [0, 1, 2, 3, 4, 5, 6] rfl ?_
    refine J.wsEq (ws2 := stC g sa sb sd (L.length : Int) (G : Int) (S : Int) (M : Int) nm f hh ++ (mlC g a q1 q2 q3 q4 ((ms ++ spL L i ++ spR i 0).length : Int) k1 h1 m1 b1)) (by rw [spR, List.append_nil]) ?_
    refine J_loop (σ := Nat × NF × NF × NF × NF) (fun x9 : Nat × NF × NF × NF × NF => match x9 with | (t, k2, h2, m2, b2) => t ≤ L.getD i 0 / 2 ∧ mrepB L (ms ++ spL L i ++ spR i t) k2 h2 m2 b2) (fun x9 : Nat × NF × NF × NF × NF => match x9 with | (t, k2, h2, m2, b2) => L.getD i 0 / 2 - t) (fun x9 : Nat × NF × NF × NF × NF => match x9 with | (t, k2, h2, m2, b2) => stC g sa sb sd (L.length : Int) (G : Int) (S : Int) (M : Int) nm f hh ++ (mlC g a q1 q2 q3 q4 ((ms ++ spL L i ++ spR i t).length : Int) k2 h2 m2 b2)) (fun x9 : Nat × NF × NF × NF × NF => match x9 with | (t, k2, h2, m2, b2) => [(6, .int (iI ((t : Int) + 1))), (5, .int (iI (((slotL L : Nat) : Int) - wtI ((L.getD i 0 : Nat) : Int)))), (4, .int (iI (((L.getD i 0) : Nat) : Int))), (3, .int (iI (i : Int))), (0, .ref a), (1, .ref sa), (2, .int (iI ((slotL L : Nat) : Int)))]) (0, k1, h1, m1, b1) (by show 0 ≤ L.getD i 0 / 2 ∧ mrepB L (ms ++ spL L i ++ spR i 0) k1 h1 m1 b1; exact ⟨Nat.zero_le _, by rw [spR, List.append_nil]; exact hm⟩) ?_
    rintro ⟨t, k2, h2, m2, b2⟩ hI ih30
    have hI : t ≤ L.getD i 0 / 2 ∧ mrepB L (ms ++ spL L i ++ spR i t) k2 h2 m2 b2 := hI
    obtain ⟨ht, hm2⟩ := hI
    refine j_iload F dX1_addSplits_30 0 rfl ?_
    refine j_iload F dX1_addSplits_32 2 rfl ?_
    refine j_iload F dX1_addSplits_34 0 rfl ?_
    refine j_isub F dX1_addSplits_36 ?_
    refine j_icmp_gt F (tgt := 71) dX1_addSplits_37 (by decide) ⟨(by unfold rg; omega), (by unfold rg; omega)⟩ (fun c37 => ?_) (fun c37 => ?_)
    · have et : t = L.getD i 0 / 2 := by omega
      have hmE : mrepB L (ms ++ spL L (i + 1)) k2 h2 m2 b2 := by rw [spL, ← List.append_assoc, ← et]; exact hm2
      refine J.wsEq (ws2 := stC g sa sb sd (L.length : Int) (G : Int) (S : Int) (M : Int) nm f hh ++ (mlC g a q1 q2 q3 q4 ((ms ++ spL L (i + 1)).length : Int) k2 h2 m2 b2)) (by rw [spL, ← List.append_assoc, ← et]) ?_
      refine j_iinc F (lv' := [(3, .int (iI ((i : Int) + 1))), (6, .int (iI ((t : Int) + 1))), (5, .int (iI (((slotL L : Nat) : Int) - wtI ((L.getD i 0 : Nat) : Int)))), (4, .int (iI (((L.getD i 0) : Nat) : Int))), (0, .ref a), (1, .ref sa), (2, .int (iI ((slotL L : Nat) : Int)))]) dX1_addSplits_71 3 rfl (by decide) rfl ?_
      refine j_goto F (tgt := 2) dX1_addSplits_74 (by decide) ?_
      refine J.loc [0, 4, 5, 6] rfl ?_
      exact ih2 ((i + 1), k2, h2, m2, b2) (by show (i + 1) ≤ L.length ∧ mrepB L (ms ++ spL L (i + 1)) k2 h2 m2 b2; exact ⟨by omega, hmE⟩) (by show L.length - (i + 1) < L.length - i; omega)
    · have hroom2 : (ms ++ spL L i ++ spR i t).length < 84 := by have h8 := spL_step (L := L) (n := L.length) (i := i) (by omega); simp only [List.length_append, spR_len] at *; omega
      refine j_aload_n F dX1_addSplits_40 rfl 4 rfl ?_
      refine j_iconst F dX1_addSplits_41 ?_
      refine j_iload_n F dX1_addSplits_42 rfl 3 rfl ?_
      refine j_iload F dX1_addSplits_43 0 rfl ?_
      refine j_iload F dX1_addSplits_45 1 rfl ?_
      refine j_iload F dX1_addSplits_47 0 rfl ?_
      refine j_callSN_I F (As := [.int (iI ((t : Int) + 1))]) (wr := stC g sa sb sd (L.length : Int) (G : Int) (S : Int) (M : Int) nm f hh ++ (mlC g a q1 q2 q3 q4 ((ms ++ spL L i ++ spR i t).length : Int) k2 h2 m2 b2)) (st := [.int (iI (((slotL L : Nat) : Int) - wtI ((L.getD i 0 : Nat) : Int))), .int (iI ((t : Int) + 1)), .int (iI (i : Int)), .int (iI 1), .ref a]) (c_X6_weightOf hfl D g z ((t : Int) + 1) (by unfold rg; omega)) (idx := 55) (host := RX6) gX1_addSplits_X6_weightOf_n55 (by unfold nestWs; simp) (List.mem_cons_of_mem _ (List.mem_append_left _ (List.mem_append_left _ (List.mem_of_getElem? (i := 3) rfl)))) (List.mem_cons_of_mem _ (List.mem_append_left _ (List.mem_append_left _ (List.mem_of_getElem? (i := 2) rfl)))) rfl [] [0, 1, 2, 3, 4, 5, 6, 7] rfl rfl (by decide) (by decide) (by decide)  (by decide) (by decide) (le_ble rfl) ⟨by decide, by decide⟩ dX1_addSplits_49 ?_
      rintro r9 u9 rfl
      refine J.wsEq (ws2 := stC g sa sb sd (L.length : Int) (G : Int) (S : Int) (M : Int) nm f hh ++ (mlC g a q1 q2 q3 q4 ((ms ++ spL L i ++ spR i t).length : Int) k2 h2 m2 b2)) rfl ?_
      refine j_iadd F dX1_addSplits_52 ?_
      refine j_iload F dX1_addSplits_53 2 rfl ?_
      refine j_iload F dX1_addSplits_55 0 rfl ?_
      refine j_isub F dX1_addSplits_57 ?_
      refine j_callSN_I F (As := [.int (iI ((((L.getD i 0) : Nat) : Int) - ((t : Int) + 1)))]) (wr := stC g sa sb sd (L.length : Int) (G : Int) (S : Int) (M : Int) nm f hh ++ (mlC g a q1 q2 q3 q4 ((ms ++ spL L i ++ spR i t).length : Int) k2 h2 m2 b2)) (st := [.int (iI ((((slotL L : Nat) : Int) - wtI ((L.getD i 0 : Nat) : Int)) + wtI ((t : Int) + 1))), .int (iI ((t : Int) + 1)), .int (iI (i : Int)), .int (iI 1), .ref a]) (c_X6_weightOf hfl D g z (((L.getD i 0 : Nat) : Int) - ((t : Int) + 1)) (by unfold rg; omega)) (idx := 55) (host := RX6) gX1_addSplits_X6_weightOf_n55 (by unfold nestWs; simp) (List.mem_cons_of_mem _ (List.mem_append_left _ (List.mem_append_left _ (List.mem_of_getElem? (i := 3) rfl)))) (List.mem_cons_of_mem _ (List.mem_append_left _ (List.mem_append_left _ (List.mem_of_getElem? (i := 2) rfl)))) rfl [] [0, 1, 2, 3, 4, 5, 6, 7] rfl rfl (by decide) (by decide) (by decide)  (by decide) (by decide) (le_ble rfl) ⟨by decide, by decide⟩ dX1_addSplits_58 ?_
      rintro r9 u9 rfl
      refine J.wsEq (ws2 := stC g sa sb sd (L.length : Int) (G : Int) (S : Int) (M : Int) nm f hh ++ (mlC g a q1 q2 q3 q4 ((ms ++ spL L i ++ spR i t).length : Int) k2 h2 m2 b2)) rfl ?_
      refine j_iadd F dX1_addSplits_61 ?_
      refine j_callV_V F (As := [.int (iI 1), .int (iI (i : Int)), .int (iI ((t : Int) + 1)), .int (iI (((((slotL L : Nat) : Int) - wtI ((L.getD i 0 : Nat) : Int)) + wtI ((t : Int) + 1)) + wtI (((L.getD i 0 : Nat) : Int) - ((t : Int) + 1))))]) (wr := stC g sa sb sd (L.length : Int) (G : Int) (S : Int) (M : Int) nm f hh) (st := []) (c_X1_add hfl D g z a q1 q2 q3 q4 (ms ++ spL L i ++ spR i t).length (ms ++ spL L i ++ spR i (t + 1)).length k2 h2 m2 b2 1 (i : Int) ((t : Int) + 1) (((((slotL L : Nat) : Int) - wtI ((L.getD i 0 : Nat) : Int)) + wtI ((t : Int) + 1)) + wtI (((L.getD i 0 : Nat) : Int) - ((t : Int) + 1))) (by have := hroom2; omega) (by rw [spR, ← List.append_assoc]; rw [List.length_append (as := ms ++ spL L i ++ spR i t)]; rfl) (by have h7 := slot_sp hL (i := i) (t := t + 1) (by omega) (by omega); rw [show (((t + 1 : Nat)) : Int) = (t : Int) + 1 from rfl] at h7; have h8 := ap_slot_lt (g := G) (sp := 1) (mg := 0) (m := (1, i, t + 1)) hL ⟨by show i < L.length; omega, Or.inr (Or.inl ⟨rfl, rfl, by show 1 ≤ t + 1; omega, by show 2 * (t + 1) ≤ L.getD i 0; omega⟩)⟩; dsimp only at h8; omega)) (idx := 68) (C := RX1) gX1_addSplits_X1_add rfl rfl [3, 4, 5, 6, 7] [0, 1, 2] rfl rfl (by decide) (by decide) (by decide) (ci := 1) (q0 := 0) rfl rfl (by decide) (by decide) (le_ble rfl) ⟨by decide, by decide⟩ dX1_addSplits_62 ?_
      rintro u9 h9
      refine J.wsEq (ws2 := stC g sa sb sd (L.length : Int) (G : Int) (S : Int) (M : Int) nm f hh ++ (mlC g a q1 q2 q3 q4 ((ms ++ spL L i ++ spR i (t + 1)).length : Int) (nup k2 (ms ++ spL L i ++ spR i t).length 1) (nup h2 (ms ++ spL L i ++ spR i t).length (i : Int)) (nup m2 (ms ++ spL L i ++ spR i t).length ((t : Int) + 1)) (nup b2 (ms ++ spL L i ++ spR i t).length (((((slotL L : Nat) : Int) - wtI ((L.getD i 0 : Nat) : Int)) + wtI ((t : Int) + 1)) + wtI (((L.getD i 0 : Nat) : Int) - ((t : Int) + 1)))))) rfl ?_
      refine j_iinc F (lv' := [(6, .int (iI (((t : Int) + 1) + 1))), (5, .int (iI (((slotL L : Nat) : Int) - wtI ((L.getD i 0 : Nat) : Int)))), (4, .int (iI (((L.getD i 0) : Nat) : Int))), (3, .int (iI (i : Int))), (0, .ref a), (1, .ref sa), (2, .int (iI ((slotL L : Nat) : Int)))]) dX1_addSplits_65 0 rfl (by decide) rfl ?_
      refine j_goto F (tgt := 30) dX1_addSplits_68 (by decide) ?_
      refine J.loc [0, 1, 2, 3, 4, 5, 6] rfl ?_
      exact ih30 ((t + 1), (nup k2 (ms ++ spL L i ++ spR i t).length 1), (nup h2 (ms ++ spL L i ++ spR i t).length (i : Int)), (nup m2 (ms ++ spL L i ++ spR i t).length ((t : Int) + 1)), (nup b2 (ms ++ spL L i ++ spR i t).length (((((slotL L : Nat) : Int) - wtI ((L.getD i 0 : Nat) : Int)) + wtI ((t : Int) + 1)) + wtI (((L.getD i 0 : Nat) : Int) - ((t : Int) + 1))))) (by show (t + 1) ≤ L.getD i 0 / 2 ∧ mrepB L (ms ++ spL L i ++ spR i (t + 1)) (nup k2 (ms ++ spL L i ++ spR i t).length 1) (nup h2 (ms ++ spL L i ++ spR i t).length (i : Int)) (nup m2 (ms ++ spL L i ++ spR i t).length ((t : Int) + 1)) (nup b2 (ms ++ spL L i ++ spR i t).length (((((slotL L : Nat) : Int) - wtI ((L.getD i 0 : Nat) : Int)) + wtI ((t : Int) + 1)) + wtI (((L.getD i 0 : Nat) : Int) - ((t : Int) + 1)))); exact ⟨by omega, by rw [spR, ← List.append_assoc]; exact mrepB_push hm2 (1, i, t + 1) rfl rfl rfl rfl (slot_sp hL (i := i) (t := t + 1) (by omega) (by omega))⟩) (by show L.getD i 0 / 2 - (t + 1) < L.getD i 0 / 2 - t; omega)

set_option maxHeartbeats 4000000 in
set_option maxRecDepth 100000 in
theorem c_X1_addMerges {l : Launch} (hfl : l.flags = flags0) (D : va_G) (g : GT) (z : ZT) (a q1 q2 q3 q4 : Nat) (sa sb sd : Nat) (L : List Nat) (G S M : Nat) (nm : Int) (f hh : NF) (ms : List Mv) (ka ha ma ba : NF) (hL : okH L) (hr : rep f L) (hG : 1 ≤ G ∧ G ≤ 5) (H : mrepB L ms ka ha ma ba) (hroom : ms.length + (mgL L.length L.length).length ≤ 84) : CV l yX1_addMerges wsX1_addMerges 2 51 2 D g z [.ref a, .ref sa, .int (iI ((slotL L : Nat) : Int))] (stC g sa sb sd (L.length : Int) (G : Int) (S : Int) (M : Int) nm f hh ++ (mlC g a q1 q2 q3 q4 (ms.length : Int) ka ha ma ba)) (fun (u9 : NF × NF × NF × NF) => mrepB L (ms ++ mgL L.length L.length) u9.1 u9.2.1 u9.2.2.1 u9.2.2.2) (fun (u9 : NF × NF × NF × NF) => stC g sa sb sd (L.length : Int) (G : Int) (S : Int) (M : Int) nm f hh ++ (mlC g a q1 q2 q3 q4 ((ms ++ mgL L.length L.length).length : Int) u9.1 u9.2.1 u9.2.2.1 u9.2.2.2)) 0 0 := by
  refine CV_of hfl (own := RX1) ⟨1, 0, 0, 24⟩ 2 51 2 (by decide +kernel) rfl rfl ⟨by decide, by decide, by decide +kernel⟩ ⟨by decide, by decide⟩ (le_ble rfl) ?_
  intro p e s m below meth c A Q F hin ret
  change J p l e _ s m _ below meth c A D _ Q 0 0 (stC g sa sb sd (L.length : Int) (G : Int) (S : Int) (M : Int) nm f hh ++ (mlC g a q1 q2 q3 q4 (ms.length : Int) ka ha ma ba)) [(0, .ref a), (1, .ref sa), (2, .int (iI ((slotL L : Nat) : Int)))] [] 0
  have hlen := okH_len hL
  refine j_iconst F dX1_addMerges_0 ?_
  refine j_istore_n F (lv' := [(3, .int (iI 0)), (0, .ref a), (1, .ref sa), (2, .int (iI ((slotL L : Nat) : Int)))]) dX1_addMerges_1 rfl (by decide) rfl ?_
  refine J.loc [0, 1, 2, 3] rfl ?_
  refine J.wsEq (ws2 := stC g sa sb sd (L.length : Int) (G : Int) (S : Int) (M : Int) nm f hh ++ (mlC g a q1 q2 q3 q4 ((ms ++ mgL L.length 0).length : Int) ka ha ma ba)) (by rw [mgL, List.append_nil]) ?_
  refine J_loop (σ := Nat × NF × NF × NF × NF) (fun x9 : Nat × NF × NF × NF × NF => match x9 with | (i, k1, h1, m1, b1) => i ≤ L.length ∧ mrepB L (ms ++ mgL L.length i) k1 h1 m1 b1) (fun x9 : Nat × NF × NF × NF × NF => match x9 with | (i, k1, h1, m1, b1) => L.length - i) (fun x9 : Nat × NF × NF × NF × NF => match x9 with | (i, k1, h1, m1, b1) => stC g sa sb sd (L.length : Int) (G : Int) (S : Int) (M : Int) nm f hh ++ (mlC g a q1 q2 q3 q4 ((ms ++ mgL L.length i).length : Int) k1 h1 m1 b1)) (fun x9 : Nat × NF × NF × NF × NF => match x9 with | (i, k1, h1, m1, b1) => [(3, .int (iI (i : Int))), (0, .ref a), (1, .ref sa), (2, .int (iI ((slotL L : Nat) : Int)))]) (0, ka, ha, ma, ba) (by show 0 ≤ L.length ∧ mrepB L (ms ++ mgL L.length 0) ka ha ma ba; exact ⟨Nat.zero_le _, by rw [mgL, List.append_nil]; exact H⟩) ?_
  rintro ⟨i, k1, h1, m1, b1⟩ hI ih2
  have hI : i ≤ L.length ∧ mrepB L (ms ++ mgL L.length i) k1 h1 m1 b1 := hI
  obtain ⟨hi, hm⟩ := hI
  refine j_iload_n F dX1_addMerges_2 rfl 0 rfl ?_
  refine j_aload_n F dX1_addMerges_3 rfl 2 rfl ?_
  refine j_getf F (ref := "CairnGame$State") (C := RX4) (T := TX4) (N := 7) (ci := 4) (index := 51) (v := .int (iI (L.length : Int))) (fun w h => (List.mem_cons_of_mem _ (List.mem_append_left _ (List.mem_append_right _ h)))) 0 rfl rfl 1 (by decide) (List.mem_cons_of_mem _ (List.mem_append_left _ (List.mem_append_left _ (List.mem_of_getElem? (i := 0) rfl)))) rfl rfl dX1_addMerges_4 ?_
  refine j_icmp_ge F (tgt := 89) dX1_addMerges_7 (by decide) ⟨(by unfold rg; omega), (by unfold rg; omega)⟩ (fun c7 => ?_) (fun c7 => ?_)
  · refine J.wsEq (ws2 := stC g sa sb sd (L.length : Int) (G : Int) (S : Int) (M : Int) nm f hh ++ (mlC g a q1 q2 q3 q4 ((ms ++ mgL L.length L.length).length : Int) k1 h1 m1 b1)) (by rw [show i = L.length by omega]) ?_
    exact ret (k1, h1, m1, b1) 0 0 _ _ dX1_addMerges_89 (by decide) (by decide) (by rw [show i = L.length by omega] at hm; exact hm)
  · have hx := okH_at hL (i := i) (by omega)
    have hfi := hr i (by omega)
    refine j_aload_n F dX1_addMerges_10 rfl 2 rfl ?_
    refine j_getf F (ref := "CairnGame$State") (C := RX4) (T := TX4) (N := 7) (ci := 4) (index := 52) (v := .ref sb) (fun w h => (List.mem_cons_of_mem _ (List.mem_append_left _ (List.mem_append_right _ h)))) 0 rfl rfl 0 (by decide) (List.mem_cons_of_mem _ (List.mem_append_left _ (List.mem_append_left _ (List.mem_of_getElem? (i := 1) rfl)))) rfl rfl dX1_addMerges_11 ?_
    refine j_iload_n F dX1_addMerges_14 rfl 0 rfl ?_
    refine j_iald F 1 (n := 12) (f := f) rfl i (rfl) (by omega) (by decide) dX1_addMerges_15 ?_
    refine J.top (congrArg iI (show f i = (((L.getD i 0) : Nat) : Int) from hfi)) ?_
    refine j_istore F (lv' := [(4, .int (iI (((L.getD i 0) : Nat) : Int))), (3, .int (iI (i : Int))), (0, .ref a), (1, .ref sa), (2, .int (iI ((slotL L : Nat) : Int)))]) dX1_addMerges_16 (by decide) rfl ?_
    refine j_iload_n F dX1_addMerges_18 rfl 4 rfl ?_
    refine j_iload F dX1_addMerges_19 0 rfl ?_
    refine j_callSN_I F (As := [.int (iI (((L.getD i 0) : Nat) : Int))]) (wr := stC g sa sb sd (L.length : Int) (G : Int) (S : Int) (M : Int) nm f hh ++ (mlC g a q1 q2 q3 q4 ((ms ++ mgL L.length i).length : Int) k1 h1 m1 b1)) (st := [.int (iI ((slotL L : Nat) : Int))]) (c_X6_weightOf hfl D g z ((L.getD i 0 : Nat) : Int) (by unfold rg; omega)) (idx := 55) (host := RX6) gX1_addMerges_X6_weightOf_n55 (by unfold nestWs; simp) (List.mem_cons_of_mem _ (List.mem_append_left _ (List.mem_append_left _ (List.mem_of_getElem? (i := 3) rfl)))) (List.mem_cons_of_mem _ (List.mem_append_left _ (List.mem_append_left _ (List.mem_of_getElem? (i := 2) rfl)))) rfl [] [0, 1, 2, 3, 4, 5, 6, 7] rfl rfl (by decide) (by decide) (by decide)  (by decide) (by decide) (le_ble rfl) ⟨by decide, by decide⟩ dX1_addMerges_21 ?_
    rintro r9 u9 rfl
    refine J.wsEq (ws2 := stC g sa sb sd (L.length : Int) (G : Int) (S : Int) (M : Int) nm f hh ++ (mlC g a q1 q2 q3 q4 ((ms ++ mgL L.length i).length : Int) k1 h1 m1 b1)) rfl ?_
    refine j_isub F dX1_addMerges_24 ?_
    refine j_istore F (lv' := [(5, .int (iI (((slotL L : Nat) : Int) - wtI ((L.getD i 0 : Nat) : Int)))), (4, .int (iI (((L.getD i 0) : Nat) : Int))), (3, .int (iI (i : Int))), (0, .ref a), (1, .ref sa), (2, .int (iI ((slotL L : Nat) : Int)))]) dX1_addMerges_25 (by decide) rfl ?_
    refine j_iload_n F dX1_addMerges_27 rfl 2 rfl ?_
    refine j_iconst F dX1_addMerges_28 ?_
    refine j_iadd F dX1_addMerges_29 ?_
    refine J.top (congrArg iI (show ((i : Int) + 1) = (((i + 1) : Nat) : Int) from by omega)) ?_
    refine j_istore F (lv' := [(6, .int (iI (((i + 1) : Nat) : Int))), (5, .int (iI (((slotL L : Nat) : Int) - wtI ((L.getD i 0 : Nat) : Int)))), (4, .int (iI (((L.getD i 0) : Nat) : Int))), (3, .int (iI (i : Int))), (0, .ref a), (1, .ref sa), (2, .int (iI ((slotL L : Nat) : Int)))]) dX1_addMerges_30 (by decide) rfl ?_
    refine J.loc [0, 1, 2, 3, 4, 5, 6] rfl ?_
    refine J.wsEq (ws2 := stC g sa sb sd (L.length : Int) (G : Int) (S : Int) (M : Int) nm f hh ++ (mlC g a q1 q2 q3 q4 ((ms ++ mgL L.length i ++ mgR i 0).length : Int) k1 h1 m1 b1)) (by rw [mgR, List.append_nil]) ?_
    refine J_loop (σ := Nat × NF × NF × NF × NF) (fun x9 : Nat × NF × NF × NF × NF => match x9 with | (t, k2, h2, m2, b2) => t ≤ L.length - 1 - i ∧ mrepB L (ms ++ mgL L.length i ++ mgR i t) k2 h2 m2 b2) (fun x9 : Nat × NF × NF × NF × NF => match x9 with | (t, k2, h2, m2, b2) => L.length - 1 - i - t) (fun x9 : Nat × NF × NF × NF × NF => match x9 with | (t, k2, h2, m2, b2) => stC g sa sb sd (L.length : Int) (G : Int) (S : Int) (M : Int) nm f hh ++ (mlC g a q1 q2 q3 q4 ((ms ++ mgL L.length i ++ mgR i t).length : Int) k2 h2 m2 b2)) (fun x9 : Nat × NF × NF × NF × NF => match x9 with | (t, k2, h2, m2, b2) => [(6, .int (iI (((i + 1 + t) : Nat) : Int))), (5, .int (iI (((slotL L : Nat) : Int) - wtI ((L.getD i 0 : Nat) : Int)))), (4, .int (iI (((L.getD i 0) : Nat) : Int))), (3, .int (iI (i : Int))), (0, .ref a), (1, .ref sa), (2, .int (iI ((slotL L : Nat) : Int)))]) (0, k1, h1, m1, b1) (by show 0 ≤ L.length - 1 - i ∧ mrepB L (ms ++ mgL L.length i ++ mgR i 0) k1 h1 m1 b1; exact ⟨Nat.zero_le _, by rw [mgR, List.append_nil]; exact hm⟩) ?_
    rintro ⟨t, k2, h2, m2, b2⟩ hI ih32
    have hI : t ≤ L.length - 1 - i ∧ mrepB L (ms ++ mgL L.length i ++ mgR i t) k2 h2 m2 b2 := hI
    obtain ⟨ht, hm2⟩ := hI
    refine j_iload F dX1_addMerges_32 0 rfl ?_
    refine j_aload_n F dX1_addMerges_34 rfl 5 rfl ?_
    refine j_getf F (ref := "CairnGame$State") (C := RX4) (T := TX4) (N := 7) (ci := 4) (index := 51) (v := .int (iI (L.length : Int))) (fun w h => (List.mem_cons_of_mem _ (List.mem_append_left _ (List.mem_append_right _ h)))) 0 rfl rfl 1 (by decide) (List.mem_cons_of_mem _ (List.mem_append_left _ (List.mem_append_left _ (List.mem_of_getElem? (i := 0) rfl)))) rfl rfl dX1_addMerges_35 ?_
    refine j_icmp_ge F (tgt := 83) dX1_addMerges_38 (by decide) ⟨(by unfold rg; omega), (by unfold rg; omega)⟩ (fun c38 => ?_) (fun c38 => ?_)
    · have et : t = L.length - 1 - i := by omega
      have hmE : mrepB L (ms ++ mgL L.length (i + 1)) k2 h2 m2 b2 := by rw [mgL, ← List.append_assoc, ← et]; exact hm2
      refine J.wsEq (ws2 := stC g sa sb sd (L.length : Int) (G : Int) (S : Int) (M : Int) nm f hh ++ (mlC g a q1 q2 q3 q4 ((ms ++ mgL L.length (i + 1)).length : Int) k2 h2 m2 b2)) (by rw [mgL, ← List.append_assoc, ← et]) ?_
      refine j_iinc F (lv' := [(3, .int (iI ((i : Int) + 1))), (6, .int (iI (((i + 1 + t) : Nat) : Int))), (5, .int (iI (((slotL L : Nat) : Int) - wtI ((L.getD i 0 : Nat) : Int)))), (4, .int (iI (((L.getD i 0) : Nat) : Int))), (0, .ref a), (1, .ref sa), (2, .int (iI ((slotL L : Nat) : Int)))]) dX1_addMerges_83 3 rfl (by decide) rfl ?_
      refine j_goto F (tgt := 2) dX1_addMerges_86 (by decide) ?_
      refine J.loc [0, 4, 5, 6] rfl ?_
      exact ih2 ((i + 1), k2, h2, m2, b2) (by show (i + 1) ≤ L.length ∧ mrepB L (ms ++ mgL L.length (i + 1)) k2 h2 m2 b2; exact ⟨by omega, hmE⟩) (by show L.length - (i + 1) < L.length - i; omega)
    · have hy := okH_at hL (i := i + 1 + t) (by omega)
      have hfj := hr (i + 1 + t) (by omega)
      have hroom2 : (ms ++ mgL L.length i ++ mgR i t).length < 84 := by have h8 := mgL_step (N := L.length) (n := L.length) (i := i) (by omega); simp only [List.length_append, mgR_len] at *; omega
      refine j_aload_n F dX1_addMerges_41 rfl 5 rfl ?_
      refine j_getf F (ref := "CairnGame$State") (C := RX4) (T := TX4) (N := 7) (ci := 4) (index := 52) (v := .ref sb) (fun w h => (List.mem_cons_of_mem _ (List.mem_append_left _ (List.mem_append_right _ h)))) 0 rfl rfl 0 (by decide) (List.mem_cons_of_mem _ (List.mem_append_left _ (List.mem_append_left _ (List.mem_of_getElem? (i := 1) rfl)))) rfl rfl dX1_addMerges_42 ?_
      refine j_iload F dX1_addMerges_45 0 rfl ?_
      refine j_iald F 1 (n := 12) (f := f) rfl (i + 1 + t) (by omega) (by omega) (by decide) dX1_addMerges_47 ?_
      refine J.top (congrArg iI (show f (i + 1 + t) = (((L.getD (i + 1 + t) 0) : Nat) : Int) from hfj)) ?_
      refine j_istore F (lv' := [(7, .int (iI (((L.getD (i + 1 + t) 0) : Nat) : Int))), (6, .int (iI (((i + 1 + t) : Nat) : Int))), (5, .int (iI (((slotL L : Nat) : Int) - wtI ((L.getD i 0 : Nat) : Int)))), (4, .int (iI (((L.getD i 0) : Nat) : Int))), (3, .int (iI (i : Int))), (0, .ref a), (1, .ref sa), (2, .int (iI ((slotL L : Nat) : Int)))]) dX1_addMerges_48 (by decide) rfl ?_
      refine j_aload_n F dX1_addMerges_50 rfl 5 rfl ?_
      refine j_iconst F dX1_addMerges_51 ?_
      refine j_iload_n F dX1_addMerges_52 rfl 4 rfl ?_
      refine j_iload F dX1_addMerges_53 1 rfl ?_
      refine j_iload F dX1_addMerges_55 2 rfl ?_
      refine j_iload F dX1_addMerges_57 0 rfl ?_
      refine j_callSN_I F (As := [.int (iI (((L.getD (i + 1 + t) 0) : Nat) : Int))]) (wr := stC g sa sb sd (L.length : Int) (G : Int) (S : Int) (M : Int) nm f hh ++ (mlC g a q1 q2 q3 q4 ((ms ++ mgL L.length i ++ mgR i t).length : Int) k2 h2 m2 b2)) (st := [.int (iI (((slotL L : Nat) : Int) - wtI ((L.getD i 0 : Nat) : Int))), .int (iI (((i + 1 + t) : Nat) : Int)), .int (iI (i : Int)), .int (iI 2), .ref a]) (c_X6_weightOf hfl D g z ((L.getD (i + 1 + t) 0 : Nat) : Int) (by unfold rg; omega)) (idx := 55) (host := RX6) gX1_addMerges_X6_weightOf_n55 (by unfold nestWs; simp) (List.mem_cons_of_mem _ (List.mem_append_left _ (List.mem_append_left _ (List.mem_of_getElem? (i := 3) rfl)))) (List.mem_cons_of_mem _ (List.mem_append_left _ (List.mem_append_left _ (List.mem_of_getElem? (i := 2) rfl)))) rfl [] [0, 1, 2, 3, 4, 5, 6, 7] rfl rfl (by decide) (by decide) (by decide)  (by decide) (by decide) (le_ble rfl) ⟨by decide, by decide⟩ dX1_addMerges_59 ?_
      rintro r9 u9 rfl
      refine J.wsEq (ws2 := stC g sa sb sd (L.length : Int) (G : Int) (S : Int) (M : Int) nm f hh ++ (mlC g a q1 q2 q3 q4 ((ms ++ mgL L.length i ++ mgR i t).length : Int) k2 h2 m2 b2)) rfl ?_
      refine j_isub F dX1_addMerges_62 ?_
      refine j_iload F dX1_addMerges_63 3 rfl ?_
      refine j_iload F dX1_addMerges_65 0 rfl ?_
      refine j_iadd F dX1_addMerges_67 ?_
      refine j_iconst F dX1_addMerges_68 ?_
      refine j_isub F dX1_addMerges_69 ?_
      refine j_callSN_I F (As := [.int (iI (((((L.getD i 0) : Nat) : Int) + (((L.getD (i + 1 + t) 0) : Nat) : Int)) - 1))]) (wr := stC g sa sb sd (L.length : Int) (G : Int) (S : Int) (M : Int) nm f hh ++ (mlC g a q1 q2 q3 q4 ((ms ++ mgL L.length i ++ mgR i t).length : Int) k2 h2 m2 b2)) (st := [.int (iI ((((slotL L : Nat) : Int) - wtI ((L.getD i 0 : Nat) : Int)) - wtI ((L.getD (i + 1 + t) 0 : Nat) : Int))), .int (iI (((i + 1 + t) : Nat) : Int)), .int (iI (i : Int)), .int (iI 2), .ref a]) (c_X6_weightOf hfl D g z ((((L.getD i 0 : Nat) : Int) + ((L.getD (i + 1 + t) 0 : Nat) : Int)) - 1) (by unfold rg; omega)) (idx := 55) (host := RX6) gX1_addMerges_X6_weightOf_n55 (by unfold nestWs; simp) (List.mem_cons_of_mem _ (List.mem_append_left _ (List.mem_append_left _ (List.mem_of_getElem? (i := 3) rfl)))) (List.mem_cons_of_mem _ (List.mem_append_left _ (List.mem_append_left _ (List.mem_of_getElem? (i := 2) rfl)))) rfl [] [0, 1, 2, 3, 4, 5, 6, 7] rfl rfl (by decide) (by decide) (by decide)  (by decide) (by decide) (le_ble rfl) ⟨by decide, by decide⟩ dX1_addMerges_70 ?_
      rintro r9 u9 rfl
      refine J.wsEq (ws2 := stC g sa sb sd (L.length : Int) (G : Int) (S : Int) (M : Int) nm f hh ++ (mlC g a q1 q2 q3 q4 ((ms ++ mgL L.length i ++ mgR i t).length : Int) k2 h2 m2 b2)) rfl ?_
      refine j_iadd F dX1_addMerges_73 ?_
      refine j_callV_V F (As := [.int (iI 2), .int (iI (i : Int)), .int (iI (((i + 1 + t) : Nat) : Int)), .int (iI (((((slotL L : Nat) : Int) - wtI ((L.getD i 0 : Nat) : Int)) - wtI ((L.getD (i + 1 + t) 0 : Nat) : Int)) + wtI ((((L.getD i 0 : Nat) : Int) + ((L.getD (i + 1 + t) 0 : Nat) : Int)) - 1)))]) (wr := stC g sa sb sd (L.length : Int) (G : Int) (S : Int) (M : Int) nm f hh) (st := []) (c_X1_add hfl D g z a q1 q2 q3 q4 (ms ++ mgL L.length i ++ mgR i t).length (ms ++ mgL L.length i ++ mgR i (t + 1)).length k2 h2 m2 b2 2 (i : Int) ((i + 1 + t : Nat) : Int) (((((slotL L : Nat) : Int) - wtI ((L.getD i 0 : Nat) : Int)) - wtI ((L.getD (i + 1 + t) 0 : Nat) : Int)) + wtI ((((L.getD i 0 : Nat) : Int) + ((L.getD (i + 1 + t) 0 : Nat) : Int)) - 1)) (by have := hroom2; omega) (by rw [mgR, ← List.append_assoc]; rw [List.length_append (as := ms ++ mgL L.length i ++ mgR i t)]; rfl) (by have h7 := slot_mg hL (i := i) (j := i + 1 + t) (by omega) (by omega); have h8 := ap_slot_lt (g := G) (sp := 1) (mg := 1) (m := (2, i, i + 1 + t)) hL ⟨by show i < L.length; omega, Or.inr (Or.inr ⟨rfl, rfl, by show i < i + 1 + t; omega, by show i + 1 + t < L.length; omega⟩)⟩; dsimp only at h8; omega)) (idx := 68) (C := RX1) gX1_addMerges_X1_add rfl rfl [3, 4, 5, 6, 7] [0, 1, 2] rfl rfl (by decide) (by decide) (by decide) (ci := 1) (q0 := 0) rfl rfl (by decide) (by decide) (le_ble rfl) ⟨by decide, by decide⟩ dX1_addMerges_74 ?_
      rintro u9 h9
      refine J.wsEq (ws2 := stC g sa sb sd (L.length : Int) (G : Int) (S : Int) (M : Int) nm f hh ++ (mlC g a q1 q2 q3 q4 ((ms ++ mgL L.length i ++ mgR i (t + 1)).length : Int) (nup k2 (ms ++ mgL L.length i ++ mgR i t).length 2) (nup h2 (ms ++ mgL L.length i ++ mgR i t).length (i : Int)) (nup m2 (ms ++ mgL L.length i ++ mgR i t).length ((i + 1 + t : Nat) : Int)) (nup b2 (ms ++ mgL L.length i ++ mgR i t).length (((((slotL L : Nat) : Int) - wtI ((L.getD i 0 : Nat) : Int)) - wtI ((L.getD (i + 1 + t) 0 : Nat) : Int)) + wtI ((((L.getD i 0 : Nat) : Int) + ((L.getD (i + 1 + t) 0 : Nat) : Int)) - 1))))) rfl ?_
      refine j_iinc F (lv' := [(6, .int (iI ((((i + 1 + t) : Nat) : Int) + 1))), (7, .int (iI (((L.getD (i + 1 + t) 0) : Nat) : Int))), (5, .int (iI (((slotL L : Nat) : Int) - wtI ((L.getD i 0 : Nat) : Int)))), (4, .int (iI (((L.getD i 0) : Nat) : Int))), (3, .int (iI (i : Int))), (0, .ref a), (1, .ref sa), (2, .int (iI ((slotL L : Nat) : Int)))]) dX1_addMerges_77 1 rfl (by decide) rfl ?_
      refine j_goto F (tgt := 32) dX1_addMerges_80 (by decide) ?_
      refine J.loc [0, 2, 3, 4, 5, 6, 7] rfl ?_
      exact ih32 ((t + 1), (nup k2 (ms ++ mgL L.length i ++ mgR i t).length 2), (nup h2 (ms ++ mgL L.length i ++ mgR i t).length (i : Int)), (nup m2 (ms ++ mgL L.length i ++ mgR i t).length ((i + 1 + t : Nat) : Int)), (nup b2 (ms ++ mgL L.length i ++ mgR i t).length (((((slotL L : Nat) : Int) - wtI ((L.getD i 0 : Nat) : Int)) - wtI ((L.getD (i + 1 + t) 0 : Nat) : Int)) + wtI ((((L.getD i 0 : Nat) : Int) + ((L.getD (i + 1 + t) 0 : Nat) : Int)) - 1)))) (by show (t + 1) ≤ L.length - 1 - i ∧ mrepB L (ms ++ mgL L.length i ++ mgR i (t + 1)) (nup k2 (ms ++ mgL L.length i ++ mgR i t).length 2) (nup h2 (ms ++ mgL L.length i ++ mgR i t).length (i : Int)) (nup m2 (ms ++ mgL L.length i ++ mgR i t).length ((i + 1 + t : Nat) : Int)) (nup b2 (ms ++ mgL L.length i ++ mgR i t).length (((((slotL L : Nat) : Int) - wtI ((L.getD i 0 : Nat) : Int)) - wtI ((L.getD (i + 1 + t) 0 : Nat) : Int)) + wtI ((((L.getD i 0 : Nat) : Int) + ((L.getD (i + 1 + t) 0 : Nat) : Int)) - 1))); exact ⟨by omega, by rw [mgR, ← List.append_assoc]; exact mrepB_push hm2 (2, i, i + 1 + t) rfl rfl rfl rfl (slot_mg hL (i := i) (j := i + 1 + t) (by omega) (by omega))⟩) (by show L.length - 1 - i - (t + 1) < L.length - 1 - i - t; omega)

set_option maxHeartbeats 4000000 in
set_option maxRecDepth 100000 in
theorem c_X1_fill {l : Launch} (hfl : l.flags = flags0) (D : va_G) (g : GT) (z : ZT) (a q1 q2 q3 q4 : Nat) (sa sb sd : Nat) (L : List Nat) (G S M : Nat) (nm : Int) (f hh : NF) (c0 : Int) (ka ha ma ba : NF) (hL : okH L) (hr : rep f L) (hG : 1 ≤ G ∧ G ≤ 5) (hS : S ≤ 1) (hM : M ≤ 1) : CV l yX1_fill wsX1_fill 3 73 1 D g z [.ref a, .ref sa] (stC g sa sb sd (L.length : Int) (G : Int) (S : Int) (M : Int) nm f hh ++ (mlC g a q1 q2 q3 q4 c0 ka ha ma ba)) (fun (u9 : NF × NF × NF × NF) => mrepB L (mvL G S M L) u9.1 u9.2.1 u9.2.2.1 u9.2.2.2) (fun (u9 : NF × NF × NF × NF) => stC g sa sb sd (L.length : Int) (G : Int) (S : Int) (M : Int) nm f hh ++ (mlC g a q1 q2 q3 q4 ((mvL G S M L).length : Int) u9.1 u9.2.1 u9.2.2.1 u9.2.2.2)) 0 0 := by
  refine CV_of hfl (own := RX1) ⟨2, 0, 0, 51⟩ 3 73 1 (by decide +kernel) rfl rfl ⟨by decide, by decide, by decide +kernel⟩ ⟨by decide, by decide⟩ (le_ble rfl) ?_
  intro p e s m below meth c A Q F hin ret
  change J p l e _ s m _ below meth c A D _ Q 0 0 (stC g sa sb sd (L.length : Int) (G : Int) (S : Int) (M : Int) nm f hh ++ (mlC g a q1 q2 q3 q4 c0 ka ha ma ba)) [(0, .ref a), (1, .ref sa)] [] 0
  have hlen := okH_len hL
  have hsl := slotL_lt hL
  refine j_aload_n F dX1_fill_0 rfl 0 rfl ?_
  refine j_iconst F dX1_fill_1 ?_
  refine j_putf F (ref := "CairnGame$MoveList") (C := RX1) (T := TX1) (N := 5) (ci := 1) (index := 24) (ty := .int) (ws' := stC g sa sb sd (L.length : Int) (G : Int) (S : Int) (M : Int) nm f hh ++ (mlC g a q1 q2 q3 q4 0 ka ha ma ba)) (fun w h => (List.mem_cons_of_mem _ (List.mem_append_left _ (List.mem_append_right _ h)))) tyX1 tyX1_ok nmX1 3 rfl rfl 4 (by decide) (List.mem_cons_of_mem _ (List.mem_append_left _ (List.mem_append_left _ (List.mem_append_left _ (List.mem_of_getElem? (l := wsX1_fill_r1) (i := 0) rfl))))) rfl rfl rfl rfl rfl (lt_ble rfl) rfl dX1_fill_2 ?_
  refine J.wsEq (ws2 := stC g sa sb sd (L.length : Int) (G : Int) (S : Int) (M : Int) nm f hh ++ (mlC g a q1 q2 q3 q4 ((([] : List Mv).length : Nat) : Int) ka ha ma ba)) (rfl) ?_
  refine j_aload_n F dX1_fill_5 rfl 1 rfl ?_
  refine j_callV_I F (As := []) (wr := mlC g a q1 q2 q3 q4 ((([] : List Mv).length : Nat) : Int) ka ha ma ba) (st := []) (c_X4_slot hfl D g z sa sb sd L.length (G : Int) (S : Int) (M : Int) nm f hh hlen (rep_rg hr hL) (by rw [sumW_slot hr hL]; omega)) (idx := 28) (C := RX4) gX1_fill_X4_slot rfl rfl [0, 1, 2] [3, 4, 5, 6, 7] rfl rfl (by decide) (by decide) (by decide) (ci := 4) (q0 := 0) rfl rfl (by decide) (by decide) (le_ble rfl) ⟨by decide, by decide⟩ dX1_fill_6 ?_
  rintro r9 u9 h9
  subst h9
  rw [sumW_slot hr hL]
  refine J.wsEq (ws2 := mlC g a q1 q2 q3 q4 ((([] : List Mv).length : Nat) : Int) ka ha ma ba ++ (stC g sa sb sd (L.length : Int) (G : Int) (S : Int) (M : Int) nm f hh)) rfl ?_
  refine j_istore_n F (lv' := [(2, .int (iI ((slotL L : Nat) : Int))), (0, .ref a), (1, .ref sa)]) dX1_fill_9 rfl (by decide) rfl ?_
  refine j_aload_n F dX1_fill_10 rfl 1 rfl ?_
  refine j_aload_n F dX1_fill_11 rfl 2 rfl ?_
  refine j_iload_n F dX1_fill_12 rfl 0 rfl ?_
  refine j_callV_V F (As := [.ref sa, .int (iI ((slotL L : Nat) : Int))]) (wr := []) (st := []) (c_X1_addTakes hfl D g z a q1 q2 q3 q4 sa sb sd L G S M nm f hh ([]) ka ha ma ba hL hr hG (mrepB_0 L ka ha ma ba) (by have h9 := mvL_len (g := G) (sp := 1) (mg := 1) hL; unfold mvL at h9; rw [if_pos rfl, if_pos rfl] at h9; simp only [List.length_append, List.length_nil] at *; omega)) (idx := 34) (C := RX1) gX1_fill_X1_addTakes rfl rfl [5, 6, 7, 0, 1, 2, 3, 4] [] rfl rfl (by decide) (by decide) (by decide) (ci := 1) (q0 := 3) rfl rfl (by decide) (by decide) (le_ble rfl) ⟨by decide, by decide⟩ dX1_fill_13 ?_
  rintro ut Ht
  refine J.wsEq (ws2 := stC g sa sb sd (L.length : Int) (G : Int) (S : Int) (M : Int) nm f hh ++ (mlC g a q1 q2 q3 q4 (([] ++ tkL G L L.length).length : Int) ut.1 ut.2.1 ut.2.2.1 ut.2.2.2)) rfl ?_
  refine j_aload_n F dX1_fill_16 rfl 2 rfl ?_
  refine j_getf F (ref := "CairnGame$State") (C := RX4) (T := TX4) (N := 7) (ci := 4) (index := 38) (v := .int (iI (S : Int))) (fun w h => (List.mem_cons_of_mem _ (List.mem_append_right _ h))) 0 rfl rfl 3 (by decide) (List.mem_cons_of_mem _ (List.mem_append_left _ (List.mem_append_left _ (List.mem_append_left _ (List.mem_of_getElem? (l := wsX1_fill_r1) (i := 1) rfl))))) rfl rfl dX1_fill_17 ?_
  refine j_if_eq F (tgt := 29) dX1_fill_20 (by decide) (by unfold rg; omega) (fun c20 => ?_) (fun c20 => ?_)
  · refine j_aload_n F dX1_fill_29 rfl 2 rfl ?_
    refine j_getf F (ref := "CairnGame$State") (C := RX4) (T := TX4) (N := 7) (ci := 4) (index := 45) (v := .int (iI (M : Int))) (fun w h => (List.mem_cons_of_mem _ (List.mem_append_right _ h))) 0 rfl rfl 4 (by decide) (List.mem_cons_of_mem _ (List.mem_append_left _ (List.mem_append_left _ (List.mem_append_left _ (List.mem_of_getElem? (l := wsX1_fill_r1) (i := 2) rfl))))) rfl rfl dX1_fill_30 ?_
    refine j_if_eq F (tgt := 42) dX1_fill_33 (by decide) (by unfold rg; omega) (fun c33 => ?_) (fun c33 => ?_)
    · refine J.wsEq (ws2 := stC g sa sb sd (L.length : Int) (G : Int) (S : Int) (M : Int) nm f hh ++ (mlC g a q1 q2 q3 q4 ((mvL G S M L).length : Int) ut.1 ut.2.1 ut.2.2.1 ut.2.2.2)) (by rw [(show ([] ++ tkL G L L.length) = mvL G S M L by unfold mvL; rw [if_neg (by omega), if_neg (by omega)]; simp only [List.append_assoc, List.nil_append, List.append_nil])]) ?_
      exact ret (ut.1, ut.2.1, ut.2.2.1, ut.2.2.2) 0 0 _ _ dX1_fill_42 (by decide) (by decide) (by rw [(show ([] ++ tkL G L L.length) = mvL G S M L by unfold mvL; rw [if_neg (by omega), if_neg (by omega)]; simp only [List.append_assoc, List.nil_append, List.append_nil])] at Ht; exact Ht)
    · refine j_aload_n F dX1_fill_36 rfl 1 rfl ?_
      refine j_aload_n F dX1_fill_37 rfl 2 rfl ?_
      refine j_iload_n F dX1_fill_38 rfl 0 rfl ?_
      refine j_callV_V F (As := [.ref sa, .int (iI ((slotL L : Nat) : Int))]) (wr := []) (st := []) (c_X1_addMerges hfl D g z a q1 q2 q3 q4 sa sb sd L G S M nm f hh ([] ++ tkL G L L.length) ut.1 ut.2.1 ut.2.2.1 ut.2.2.2 hL hr hG Ht (by have h9 := mvL_len (g := G) (sp := 1) (mg := 1) hL; unfold mvL at h9; rw [if_pos rfl, if_pos rfl] at h9; simp only [List.length_append, List.length_nil] at *; omega)) (idx := 48) (C := RX1) gX1_fill_X1_addMerges rfl rfl [0, 1, 2, 3, 4, 5, 6, 7] [] rfl rfl (by decide) (by decide) (by decide) (ci := 1) (q0 := 3) rfl rfl (by decide) (by decide) (le_ble rfl) ⟨by decide, by decide⟩ dX1_fill_39 ?_
      rintro ug Hg
      refine J.wsEq (ws2 := stC g sa sb sd (L.length : Int) (G : Int) (S : Int) (M : Int) nm f hh ++ (mlC g a q1 q2 q3 q4 ((([] ++ tkL G L L.length) ++ mgL L.length L.length).length : Int) ug.1 ug.2.1 ug.2.2.1 ug.2.2.2)) rfl ?_
      refine J.wsEq (ws2 := stC g sa sb sd (L.length : Int) (G : Int) (S : Int) (M : Int) nm f hh ++ (mlC g a q1 q2 q3 q4 ((mvL G S M L).length : Int) ug.1 ug.2.1 ug.2.2.1 ug.2.2.2)) (by rw [(show (([] ++ tkL G L L.length) ++ mgL L.length L.length) = mvL G S M L by unfold mvL; rw [if_neg (by omega), if_pos (by omega)]; simp only [List.append_assoc, List.nil_append, List.append_nil])]) ?_
      exact ret (ug.1, ug.2.1, ug.2.2.1, ug.2.2.2) 0 0 _ _ dX1_fill_42 (by decide) (by decide) (by rw [(show (([] ++ tkL G L L.length) ++ mgL L.length L.length) = mvL G S M L by unfold mvL; rw [if_neg (by omega), if_pos (by omega)]; simp only [List.append_assoc, List.nil_append, List.append_nil])] at Hg; exact Hg)
  · refine j_aload_n F dX1_fill_23 rfl 1 rfl ?_
    refine j_aload_n F dX1_fill_24 rfl 2 rfl ?_
    refine j_iload_n F dX1_fill_25 rfl 0 rfl ?_
    refine j_callV_V F (As := [.ref sa, .int (iI ((slotL L : Nat) : Int))]) (wr := []) (st := []) (c_X1_addSplits hfl D g z a q1 q2 q3 q4 sa sb sd L G S M nm f hh ([] ++ tkL G L L.length) ut.1 ut.2.1 ut.2.2.1 ut.2.2.2 hL hr hG Ht (by have h9 := mvL_len (g := G) (sp := 1) (mg := 1) hL; unfold mvL at h9; rw [if_pos rfl, if_pos rfl] at h9; simp only [List.length_append, List.length_nil] at *; omega)) (idx := 42) (C := RX1) gX1_fill_X1_addSplits rfl rfl [0, 1, 2, 3, 4, 5, 6, 7] [] rfl rfl (by decide) (by decide) (by decide) (ci := 1) (q0 := 3) rfl rfl (by decide) (by decide) (le_ble rfl) ⟨by decide, by decide⟩ dX1_fill_26 ?_
    rintro up Hp
    refine J.wsEq (ws2 := stC g sa sb sd (L.length : Int) (G : Int) (S : Int) (M : Int) nm f hh ++ (mlC g a q1 q2 q3 q4 ((([] ++ tkL G L L.length) ++ spL L L.length).length : Int) up.1 up.2.1 up.2.2.1 up.2.2.2)) rfl ?_
    refine j_aload_n F dX1_fill_29 rfl 2 rfl ?_
    refine j_getf F (ref := "CairnGame$State") (C := RX4) (T := TX4) (N := 7) (ci := 4) (index := 45) (v := .int (iI (M : Int))) (fun w h => (List.mem_cons_of_mem _ (List.mem_append_right _ h))) 0 rfl rfl 4 (by decide) (List.mem_cons_of_mem _ (List.mem_append_left _ (List.mem_append_left _ (List.mem_append_left _ (List.mem_of_getElem? (l := wsX1_fill_r1) (i := 2) rfl))))) rfl rfl dX1_fill_30 ?_
    refine j_if_eq F (tgt := 42) dX1_fill_33 (by decide) (by unfold rg; omega) (fun c33 => ?_) (fun c33 => ?_)
    · refine J.wsEq (ws2 := stC g sa sb sd (L.length : Int) (G : Int) (S : Int) (M : Int) nm f hh ++ (mlC g a q1 q2 q3 q4 ((mvL G S M L).length : Int) up.1 up.2.1 up.2.2.1 up.2.2.2)) (by rw [(show (([] ++ tkL G L L.length) ++ spL L L.length) = mvL G S M L by unfold mvL; rw [if_pos (by omega), if_neg (by omega)]; simp only [List.append_assoc, List.nil_append, List.append_nil])]) ?_
      exact ret (up.1, up.2.1, up.2.2.1, up.2.2.2) 0 0 _ _ dX1_fill_42 (by decide) (by decide) (by rw [(show (([] ++ tkL G L L.length) ++ spL L L.length) = mvL G S M L by unfold mvL; rw [if_pos (by omega), if_neg (by omega)]; simp only [List.append_assoc, List.nil_append, List.append_nil])] at Hp; exact Hp)
    · refine j_aload_n F dX1_fill_36 rfl 1 rfl ?_
      refine j_aload_n F dX1_fill_37 rfl 2 rfl ?_
      refine j_iload_n F dX1_fill_38 rfl 0 rfl ?_
      refine j_callV_V F (As := [.ref sa, .int (iI ((slotL L : Nat) : Int))]) (wr := []) (st := []) (c_X1_addMerges hfl D g z a q1 q2 q3 q4 sa sb sd L G S M nm f hh (([] ++ tkL G L L.length) ++ spL L L.length) up.1 up.2.1 up.2.2.1 up.2.2.2 hL hr hG Hp (by have h9 := mvL_len (g := G) (sp := 1) (mg := 1) hL; unfold mvL at h9; rw [if_pos rfl, if_pos rfl] at h9; simp only [List.length_append, List.length_nil] at *; omega)) (idx := 48) (C := RX1) gX1_fill_X1_addMerges rfl rfl [0, 1, 2, 3, 4, 5, 6, 7] [] rfl rfl (by decide) (by decide) (by decide) (ci := 1) (q0 := 3) rfl rfl (by decide) (by decide) (le_ble rfl) ⟨by decide, by decide⟩ dX1_fill_39 ?_
      rintro ug Hg
      refine J.wsEq (ws2 := stC g sa sb sd (L.length : Int) (G : Int) (S : Int) (M : Int) nm f hh ++ (mlC g a q1 q2 q3 q4 (((([] ++ tkL G L L.length) ++ spL L L.length) ++ mgL L.length L.length).length : Int) ug.1 ug.2.1 ug.2.2.1 ug.2.2.2)) rfl ?_
      refine J.wsEq (ws2 := stC g sa sb sd (L.length : Int) (G : Int) (S : Int) (M : Int) nm f hh ++ (mlC g a q1 q2 q3 q4 ((mvL G S M L).length : Int) ug.1 ug.2.1 ug.2.2.1 ug.2.2.2)) (by rw [(show ((([] ++ tkL G L L.length) ++ spL L L.length) ++ mgL L.length L.length) = mvL G S M L by unfold mvL; rw [if_pos (by omega), if_pos (by omega)]; simp only [List.append_assoc, List.nil_append, List.append_nil])]) ?_
      exact ret (ug.1, ug.2.1, ug.2.2.1, ug.2.2.2) 0 0 _ _ dX1_fill_42 (by decide) (by decide) (by rw [(show ((([] ++ tkL G L L.length) ++ spL L L.length) ++ mgL L.length L.length) = mvL G S M L by unfold mvL; rw [if_pos (by omega), if_pos (by omega)]; simp only [List.append_assoc, List.nil_append, List.append_nil])] at Hg; exact Hg)

end X1
