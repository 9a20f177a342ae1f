/-! ===== CairnGame: contracts (first batch) ===== -/
section X6
abbrev IAE : String := "java/lang/IllegalArgumentException"
abbrev ISE : String := "java/lang/IllegalStateException"
abbrev IOE : String := "java/lang/IndexOutOfBoundsException"

set_option maxHeartbeats 4000000 in
set_option maxRecDepth 100000 in
theorem c_X6_heaps {l : Launch} (hfl : l.flags = flags0) (D : va_G) (g : GT) (z : ZT) (ga sa ho la so ta sb sd : Nat) (L : List Nat) (G S M Nn : Nat) (f hh : NF) (hL : okH L) (hr : rep f L) (hG : 1 ≤ G ∧ G ≤ 5) (hS : S ≤ 1) (hM : M ≤ 1) (hN : Nn ≤ 1) : CI l yX6_heaps wsX6_heaps 1 20 0 D g z [.ref ga] (gmC ga sa ho la so ta ++ (stC g sa sb sd ((L.length : Nat) : Int) (G : Int) (S : Int) (M : Int) (Nn : Int) f hh)) (fun (r9 : Int32) (u9 : Unit) => r9 = iI ((L.length : Nat) : Int)) (fun (u9 : Unit) => gmC ga sa ho la so ta ++ (stC g sa sb sd ((L.length : Nat) : Int) (G : Int) (S : Int) (M : Int) (Nn : Int) f hh)) 0 0 := by
  refine CI_of hfl (own := RX6) ⟨0, 0, 0, 0⟩ 1 20 0 (by decide +kernel) rfl rfl ⟨by decide, by decide, by decide +kernel⟩ ⟨by decide, by decide⟩ (le_ble rfl) (fun _ _ _ => rfl) ?_
  intro p e s m below meth c A Q F ret
  change J p l e _ s m _ below meth c A D _ Q 0 0 (gmC ga sa ho la so ta ++ (stC g sa sb sd ((L.length : Nat) : Int) (G : Int) (S : Int) (M : Int) (Nn : Int) f hh)) [(0, .ref ga)] [] 0
  refine j_aload_n F dX6_heaps_0 rfl 0 rfl ?_
  refine j_getf F (ref := "CairnGame") (C := RX6) (T := TX6) (N := 5) (ci := 6) (index := 12) (v := .ref sa) (fun w h => (List.mem_cons_of_mem _ (List.mem_append_left _ (List.mem_append_right _ h)))) 0 rfl rfl 0 (by decide) (List.mem_cons_of_mem _ (List.mem_append_left _ (List.mem_append_left _ (List.mem_of_getElem? (i := 0) rfl)))) rfl rfl dX6_heaps_1 ?_
  refine j_getf F (ref := "CairnGame$State") (C := RX4) (T := TX4) (N := 7) (ci := 4) (index := 67) (v := .int (iI ((L.length : Nat) : Int))) (fun w h => (List.mem_cons_of_mem _ (List.mem_append_right _ h))) 1 rfl rfl 1 (by decide) (List.mem_cons_of_mem _ (List.mem_append_left _ (List.mem_append_left _ (List.mem_of_getElem? (i := 1) rfl)))) rfl rfl dX6_heaps_4 ?_
  exact ret _ () 0 0 _ _ dX6_heaps_7 (by decide) (by decide) rfl

set_option maxHeartbeats 4000000 in
set_option maxRecDepth 100000 in
theorem c_X6_greatestTake {l : Launch} (hfl : l.flags = flags0) (D : va_G) (g : GT) (z : ZT) (ga sa ho la so ta sb sd : Nat) (L : List Nat) (G S M Nn : Nat) (f hh : NF) (hL : okH L) (hr : rep f L) (hG : 1 ≤ G ∧ G ≤ 5) (hS : S ≤ 1) (hM : M ≤ 1) (hN : Nn ≤ 1) : CI l yX6_greatestTake wsX6_greatestTake 1 20 0 D g z [.ref ga] (gmC ga sa ho la so ta ++ (stC g sa sb sd ((L.length : Nat) : Int) (G : Int) (S : Int) (M : Int) (Nn : Int) f hh)) (fun (r9 : Int32) (u9 : Unit) => r9 = iI (G : Int)) (fun (u9 : Unit) => gmC ga sa ho la so ta ++ (stC g sa sb sd ((L.length : Nat) : Int) (G : Int) (S : Int) (M : Int) (Nn : Int) f hh)) 0 0 := by
  refine CI_of hfl (own := RX6) ⟨0, 0, 0, 0⟩ 1 20 0 (by decide +kernel) rfl rfl ⟨by decide, by decide, by decide +kernel⟩ ⟨by decide, by decide⟩ (le_ble rfl) (fun _ _ _ => rfl) ?_
  intro p e s m below meth c A Q F ret
  change J p l e _ s m _ below meth c A D _ Q 0 0 (gmC ga sa ho la so ta ++ (stC g sa sb sd ((L.length : Nat) : Int) (G : Int) (S : Int) (M : Int) (Nn : Int) f hh)) [(0, .ref ga)] [] 0
  refine j_aload_n F dX6_greatestTake_0 rfl 0 rfl ?_
  refine j_getf F (ref := "CairnGame") (C := RX6) (T := TX6) (N := 5) (ci := 6) (index := 12) (v := .ref sa) (fun w h => (List.mem_cons_of_mem _ (List.mem_append_left _ (List.mem_append_right _ h)))) 0 rfl rfl 0 (by decide) (List.mem_cons_of_mem _ (List.mem_append_left _ (List.mem_append_left _ (List.mem_of_getElem? (i := 0) rfl)))) rfl rfl dX6_greatestTake_1 ?_
  refine j_getf F (ref := "CairnGame$State") (C := RX4) (T := TX4) (N := 7) (ci := 4) (index := 77) (v := .int (iI (G : Int))) (fun w h => (List.mem_cons_of_mem _ (List.mem_append_right _ h))) 1 rfl rfl 2 (by decide) (List.mem_cons_of_mem _ (List.mem_append_left _ (List.mem_append_left _ (List.mem_of_getElem? (i := 1) rfl)))) rfl rfl dX6_greatestTake_4 ?_
  exact ret _ () 0 0 _ _ dX6_greatestTake_7 (by decide) (by decide) rfl

set_option maxHeartbeats 4000000 in
set_option maxRecDepth 100000 in
theorem c_X6_isSplitting {l : Launch} (hfl : l.flags = flags0) (D : va_G) (g : GT) (z : ZT) (ga sa ho la so ta sb sd : Nat) (L : List Nat) (G S M Nn : Nat) (f hh : NF) (hL : okH L) (hr : rep f L) (hG : 1 ≤ G ∧ G ≤ 5) (hS : S ≤ 1) (hM : M ≤ 1) (hN : Nn ≤ 1) : CI l yX6_isSplitting wsX6_isSplitting 1 20 0 D g z [.ref ga] (gmC ga sa ho la so ta ++ (stC g sa sb sd ((L.length : Nat) : Int) (G : Int) (S : Int) (M : Int) (Nn : Int) f hh)) (fun (r9 : Int32) (u9 : Unit) => r9 = iI (S : Int)) (fun (u9 : Unit) => gmC ga sa ho la so ta ++ (stC g sa sb sd ((L.length : Nat) : Int) (G : Int) (S : Int) (M : Int) (Nn : Int) f hh)) 0 0 := by
  refine CI_of hfl (own := RX6) ⟨0, 0, 0, 0⟩ 1 20 0 (by decide +kernel) rfl rfl ⟨by decide, by decide, by decide +kernel⟩ ⟨by decide, by decide⟩ (le_ble rfl) (fun _ _ h => nar_01 h (by omega)) ?_
  intro p e s m below meth c A Q F ret
  change J p l e _ s m _ below meth c A D _ Q 0 0 (gmC ga sa ho la so ta ++ (stC g sa sb sd ((L.length : Nat) : Int) (G : Int) (S : Int) (M : Int) (Nn : Int) f hh)) [(0, .ref ga)] [] 0
  refine j_aload_n F dX6_isSplitting_0 rfl 0 rfl ?_
  refine j_getf F (ref := "CairnGame") (C := RX6) (T := TX6) (N := 5) (ci := 6) (index := 12) (v := .ref sa) (fun w h => (List.mem_cons_of_mem _ (List.mem_append_left _ (List.mem_append_right _ h)))) 0 rfl rfl 0 (by decide) (List.mem_cons_of_mem _ (List.mem_append_left _ (List.mem_append_left _ (List.mem_of_getElem? (i := 0) rfl)))) rfl rfl dX6_isSplitting_1 ?_
  refine j_getf F (ref := "CairnGame$State") (C := RX4) (T := TX4) (N := 7) (ci := 4) (index := 80) (v := .int (iI (S : Int))) (fun w h => (List.mem_cons_of_mem _ (List.mem_append_right _ h))) 1 rfl rfl 3 (by decide) (List.mem_cons_of_mem _ (List.mem_append_left _ (List.mem_append_left _ (List.mem_of_getElem? (i := 1) rfl)))) rfl rfl dX6_isSplitting_4 ?_
  exact ret _ () 0 0 _ _ dX6_isSplitting_7 (by decide) (by decide) rfl

set_option maxHeartbeats 4000000 in
set_option maxRecDepth 100000 in
theorem c_X6_isMerging {l : Launch} (hfl : l.flags = flags0) (D : va_G) (g : GT) (z : ZT) (ga sa ho la so ta sb sd : Nat) (L : List Nat) (G S M Nn : Nat) (f hh : NF) (hL : okH L) (hr : rep f L) (hG : 1 ≤ G ∧ G ≤ 5) (hS : S ≤ 1) (hM : M ≤ 1) (hN : Nn ≤ 1) : CI l yX6_isMerging wsX6_isMerging 1 20 0 D g z [.ref ga] (gmC ga sa ho la so ta ++ (stC g sa sb sd ((L.length : Nat) : Int) (G : Int) (S : Int) (M : Int) (Nn : Int) f hh)) (fun (r9 : Int32) (u9 : Unit) => r9 = iI (M : Int)) (fun (u9 : Unit) => gmC ga sa ho la so ta ++ (stC g sa sb sd ((L.length : Nat) : Int) (G : Int) (S : Int) (M : Int) (Nn : Int) f hh)) 0 0 := by
  refine CI_of hfl (own := RX6) ⟨0, 0, 0, 0⟩ 1 20 0 (by decide +kernel) rfl rfl ⟨by decide, by decide, by decide +kernel⟩ ⟨by decide, by decide⟩ (le_ble rfl) (fun _ _ h => nar_01 h (by omega)) ?_
  intro p e s m below meth c A Q F ret
  change J p l e _ s m _ below meth c A D _ Q 0 0 (gmC ga sa ho la so ta ++ (stC g sa sb sd ((L.length : Nat) : Int) (G : Int) (S : Int) (M : Int) (Nn : Int) f hh)) [(0, .ref ga)] [] 0
  refine j_aload_n F dX6_isMerging_0 rfl 0 rfl ?_
  refine j_getf F (ref := "CairnGame") (C := RX6) (T := TX6) (N := 5) (ci := 6) (index := 12) (v := .ref sa) (fun w h => (List.mem_cons_of_mem _ (List.mem_append_left _ (List.mem_append_right _ h)))) 0 rfl rfl 0 (by decide) (List.mem_cons_of_mem _ (List.mem_append_left _ (List.mem_append_left _ (List.mem_of_getElem? (i := 0) rfl)))) rfl rfl dX6_isMerging_1 ?_
  refine j_getf F (ref := "CairnGame$State") (C := RX4) (T := TX4) (N := 7) (ci := 4) (index := 84) (v := .int (iI (M : Int))) (fun w h => (List.mem_cons_of_mem _ (List.mem_append_right _ h))) 1 rfl rfl 4 (by decide) (List.mem_cons_of_mem _ (List.mem_append_left _ (List.mem_append_left _ (List.mem_of_getElem? (i := 1) rfl)))) rfl rfl dX6_isMerging_4 ?_
  exact ret _ () 0 0 _ _ dX6_isMerging_7 (by decide) (by decide) rfl

set_option maxHeartbeats 4000000 in
set_option maxRecDepth 100000 in
theorem c_X6_isNormal {l : Launch} (hfl : l.flags = flags0) (D : va_G) (g : GT) (z : ZT) (ga sa ho la so ta sb sd : Nat) (L : List Nat) (G S M Nn : Nat) (f hh : NF) (hL : okH L) (hr : rep f L) (hG : 1 ≤ G ∧ G ≤ 5) (hS : S ≤ 1) (hM : M ≤ 1) (hN : Nn ≤ 1) : CI l yX6_isNormal wsX6_isNormal 1 20 0 D g z [.ref ga] (gmC ga sa ho la so ta ++ (stC g sa sb sd ((L.length : Nat) : Int) (G : Int) (S : Int) (M : Int) (Nn : Int) f hh)) (fun (r9 : Int32) (u9 : Unit) => r9 = iI (Nn : Int)) (fun (u9 : Unit) => gmC ga sa ho la so ta ++ (stC g sa sb sd ((L.length : Nat) : Int) (G : Int) (S : Int) (M : Int) (Nn : Int) f hh)) 0 0 := by
  refine CI_of hfl (own := RX6) ⟨0, 0, 0, 0⟩ 1 20 0 (by decide +kernel) rfl rfl ⟨by decide, by decide, by decide +kernel⟩ ⟨by decide, by decide⟩ (le_ble rfl) (fun _ _ h => nar_01 h (by omega)) ?_
  intro p e s m below meth c A Q F ret
  change J p l e _ s m _ below meth c A D _ Q 0 0 (gmC ga sa ho la so ta ++ (stC g sa sb sd ((L.length : Nat) : Int) (G : Int) (S : Int) (M : Int) (Nn : Int) f hh)) [(0, .ref ga)] [] 0
  refine j_aload_n F dX6_isNormal_0 rfl 0 rfl ?_
  refine j_getf F (ref := "CairnGame") (C := RX6) (T := TX6) (N := 5) (ci := 6) (index := 12) (v := .ref sa) (fun w h => (List.mem_cons_of_mem _ (List.mem_append_left _ (List.mem_append_right _ h)))) 0 rfl rfl 0 (by decide) (List.mem_cons_of_mem _ (List.mem_append_left _ (List.mem_append_left _ (List.mem_of_getElem? (i := 0) rfl)))) rfl rfl dX6_isNormal_1 ?_
  refine j_getf F (ref := "CairnGame$State") (C := RX4) (T := TX4) (N := 7) (ci := 4) (index := 87) (v := .int (iI (Nn : Int))) (fun w h => (List.mem_cons_of_mem _ (List.mem_append_right _ h))) 1 rfl rfl 5 (by decide) (List.mem_cons_of_mem _ (List.mem_append_left _ (List.mem_append_left _ (List.mem_of_getElem? (i := 1) rfl)))) rfl rfl dX6_isNormal_4 ?_
  exact ret _ () 0 0 _ _ dX6_isNormal_7 (by decide) (by decide) rfl

set_option maxHeartbeats 4000000 in
set_option maxRecDepth 100000 in
theorem c_X6_stones {l : Launch} (hfl : l.flags = flags0) (D : va_G) (g : GT) (z : ZT) (ga sa ho la so ta sb sd : Nat) (L : List Nat) (G S M Nn : Nat) (f hh : NF) (hL : okH L) (hr : rep f L) (hG : 1 ≤ G ∧ G ≤ 5) (hS : S ≤ 1) (hM : M ≤ 1) (hN : Nn ≤ 1) : CI l yX6_stones wsX6_stones 2 42 0 D g z [.ref ga] (gmC ga sa ho la so ta ++ (stC g sa sb sd ((L.length : Nat) : Int) (G : Int) (S : Int) (M : Int) (Nn : Int) f hh)) (fun (r9 : Int32) (u9 : Unit) => r9 = iI ((sm L : Nat) : Int)) (fun (u9 : Unit) => gmC ga sa ho la so ta ++ (stC g sa sb sd ((L.length : Nat) : Int) (G : Int) (S : Int) (M : Int) (Nn : Int) f hh)) 0 0 := by
  refine CI_of hfl (own := RX6) ⟨1, 0, 0, 22⟩ 2 42 0 (by decide +kernel) rfl rfl ⟨by decide, by decide, by decide +kernel⟩ ⟨by decide, by decide⟩ (le_ble rfl) (fun _ _ _ => rfl) ?_
  intro p e s m below meth c A Q F ret
  change J p l e _ s m _ below meth c A D _ Q 0 0 (gmC ga sa ho la so ta ++ (stC g sa sb sd ((L.length : Nat) : Int) (G : Int) (S : Int) (M : Int) (Nn : Int) f hh)) [(0, .ref ga)] [] 0
  have hlen := okH_len hL
  have h12 := hL.2
  refine j_aload_n F dX6_stones_0 rfl 0 rfl ?_
  refine j_getf F (ref := "CairnGame") (C := RX6) (T := TX6) (N := 5) (ci := 6) (index := 12) (v := .ref sa) (fun w h => (List.mem_cons_of_mem _ (List.mem_append_left _ (List.mem_append_right _ h)))) 0 rfl rfl 0 (by decide) (List.mem_cons_of_mem _ (List.mem_append_left _ (List.mem_append_left _ (List.mem_of_getElem? (i := 0) rfl)))) rfl rfl dX6_stones_1 ?_
  refine J.permL (ws2 := stC g sa sb sd ((L.length : Nat) : Int) (G : Int) (S : Int) (M : Int) (Nn : Int) f hh ++ (gmC ga sa ho la so ta)) (pm_c pm_e (List.Perm.refl _)) ?_
  refine j_callVx_I F (As := []) (wr := gmC ga sa ho la so ta) (st := []) (c_X4_total hfl D g z sa sb sd L.length (G : Int) (S : Int) (M : Int) (Nn : Int) f hh hlen) (idx := 48) (C := RX4) gX6_stones_X4_total rfl rfl (ci := 4) (q0 := 0) rfl rfl (by decide) (by decide) (le_ble rfl) ⟨by decide, by decide⟩ dX6_stones_4 ?_
  rintro r9 u9 h9
  subst h9
  rw [sumI_sm hr]
  refine J.wsEq (ws2 := stC g sa sb sd ((L.length : Nat) : Int) (G : Int) (S : Int) (M : Int) (Nn : Int) f hh ++ (gmC ga sa ho la so ta)) (by first | rfl | simp only [List.append_assoc, List.append_nil, List.nil_append]) ?_
  refine J.permL (ws2 := gmC ga sa ho la so ta ++ (stC g sa sb sd ((L.length : Nat) : Int) (G : Int) (S : Int) (M : Int) (Nn : Int) f hh)) (pm_c pm_e (List.Perm.refl _)) ?_
  exact ret _ () 0 0 _ _ dX6_stones_7 (by decide) (by decide) rfl

set_option maxHeartbeats 4000000 in
set_option maxRecDepth 100000 in
theorem c_X6_begin {l : Launch} (hfl : l.flags = flags0) (D : va_G) (g : GT) (z : ZT) (ga sa ho la so ta sb sd : Nat) (L : List Nat) (G S M Nn : Nat) (f hh : NF) (hrow : Nat) (hf : Nat → Option Nat) (ha hb hd : Nat → Nat) (hv : Nat → StT) (nx ct : Nat) (hL : okH L) (hr : rep f L) (hG : 1 ≤ G ∧ G ≤ 5) (hS : S ≤ 1) (hM : M ≤ 1) (hN : Nn ≤ 1) (hfr : ∀ k, k < 6 → hf k = some (ha k)) (hnx : nx < 6) (hct : ct ≤ 6) : CI l yX6_begin wsX6_begin 4 123 0 D g z [.ref ga] (gmC ga sa ho la so ta ++ (stC g sa sb sd ((L.length : Nat) : Int) (G : Int) (S : Int) (M : Int) (Nn : Int) f hh ++ (hoC g ho hrow (nx : Int) (ct : Int) hf ++ (hsC g ha hb hd hv)))) (fun (r9 : Int32) (u9 : Unit) => r9 = iI ((sm L : Nat) : Int)) (fun (u9 : Unit) => gmC ga sa ho la so ta ++ (stC g sa sb sd 0 (G : Int) (S : Int) (M : Int) (Nn : Int) f (zrF hh 3) ++ (hoC g ho hrow (((nx + 1) % 6 : Nat) : Int) ((min (ct + 1) 6 : Nat) : Int) hf ++ (hsC g ha hb hd (hup hv nx (cpT (((L.length : Nat) : Int), (G : Int), (S : Int), (M : Int), (Nn : Int), f, hh) (hv nx))))))) 0 0 := by
  refine CI_of hfl (own := RX6) ⟨3, 0, 0, 102⟩ 4 123 0 (by decide +kernel) rfl rfl ⟨by decide, by decide, by decide +kernel⟩ ⟨by decide, by decide⟩ (le_ble rfl) (fun _ _ _ => rfl) ?_
  intro p e s m below meth c A Q F ret
  change J p l e _ s m _ below meth c A D _ Q 0 0 (gmC ga sa ho la so ta ++ (stC g sa sb sd ((L.length : Nat) : Int) (G : Int) (S : Int) (M : Int) (Nn : Int) f hh ++ (hoC g ho hrow (nx : Int) (ct : Int) hf ++ (hsC g ha hb hd hv)))) [(0, .ref ga)] [] 0
  have hlen := okH_len hL
  have h12 := hL.2
  refine j_aload_n F dX6_begin_0 rfl 0 rfl ?_
  refine j_getf F (ref := "CairnGame") (C := RX6) (T := TX6) (N := 5) (ci := 6) (index := 19) (v := .ref ho) (fun w h => (List.mem_cons_of_mem _ (List.mem_append_left _ (List.mem_append_left _ (List.mem_append_right _ h))))) 0 rfl rfl 1 (by decide) (List.mem_cons_of_mem _ (List.mem_append_left _ (List.mem_append_left _ (List.mem_append_left _ (List.mem_append_left _ (List.mem_of_getElem? (l := wsX6_begin_r1) (i := 0) rfl)))))) rfl rfl dX6_begin_1 ?_
  refine j_aload_n F dX6_begin_4 rfl 0 rfl ?_
  refine j_getf F (ref := "CairnGame") (C := RX6) (T := TX6) (N := 5) (ci := 6) (index := 12) (v := .ref sa) (fun w h => (List.mem_cons_of_mem _ (List.mem_append_left _ (List.mem_append_left _ (List.mem_append_right _ h))))) 0 rfl rfl 0 (by decide) (List.mem_cons_of_mem _ (List.mem_append_left _ (List.mem_append_left _ (List.mem_append_left _ (List.mem_append_left _ (List.mem_of_getElem? (l := wsX6_begin_r1) (i := 1) rfl)))))) rfl rfl dX6_begin_5 ?_
  refine J.permL (ws2 := hoC g ho hrow (nx : Int) (ct : Int) hf ++ (hsC g ha hb hd hv ++ (stC g sa sb sd ((L.length : Nat) : Int) (G : Int) (S : Int) (M : Int) (Nn : Int) f hh ++ (gmC ga sa ho la so ta)))) (pm_c (pm_s (pm_s pm_0)) (pm_c (pm_s pm_e) (pm_c pm_e (List.Perm.refl _)))) ?_
  refine J.wsEq (ws2 := (hoC g ho hrow (nx : Int) (ct : Int) hf ++ (hsC g ha hb hd hv ++ (stC g sa sb sd ((L.length : Nat) : Int) (G : Int) (S : Int) (M : Int) (Nn : Int) f hh))) ++ (gmC ga sa ho la so ta)) (by simp only [List.append_assoc]) ?_
  refine j_callVx_V F (As := [.ref sa]) (wr := gmC ga sa ho la so ta) (st := []) (c_X0_save hfl D g z ho hrow sa sb sd hf ha hb hd hv (((L.length : Nat) : Int), (G : Int), (S : Int), (M : Int), (Nn : Int), f, hh) ct nx hnx hfr (by show (S : Int) = 0 ∨ (S : Int) = 1; omega) (by show (M : Int) = 0 ∨ (M : Int) = 1; omega) (by show (Nn : Int) = 0 ∨ (Nn : Int) = 1; omega) hct) (idx := 44) (C := RX0) gX6_begin_X0_save rfl rfl (ci := 0) (q0 := 0) rfl rfl (by decide) (by decide) (le_ble rfl) ⟨by decide, by decide⟩ dX6_begin_8 ?_
  rintro us hs9
  refine J.wsEq (ws2 := hoC g ho hrow (((nx + 1) % 6 : Nat) : Int) ((min (ct + 1) 6 : Nat) : Int) hf ++ (hsC g ha hb hd (hup hv nx (cpT (((L.length : Nat) : Int), (G : Int), (S : Int), (M : Int), (Nn : Int), f, hh) (hv nx))) ++ (stC g sa sb sd ((L.length : Nat) : Int) (G : Int) (S : Int) (M : Int) (Nn : Int) f hh ++ (gmC ga sa ho la so ta)))) (by first | rfl | simp only [List.append_assoc, List.append_nil, List.nil_append]) ?_
  refine J.permL (ws2 := gmC ga sa ho la so ta ++ (stC g sa sb sd ((L.length : Nat) : Int) (G : Int) (S : Int) (M : Int) (Nn : Int) f hh ++ (hoC g ho hrow (((nx + 1) % 6 : Nat) : Int) ((min (ct + 1) 6 : Nat) : Int) hf ++ (hsC g ha hb hd (hup hv nx (cpT (((L.length : Nat) : Int), (G : Int), (S : Int), (M : Int), (Nn : Int), f, hh) (hv nx))))))) (pm_c (pm_s (pm_s pm_e)) (pm_c (pm_s pm_e) (pm_c pm_0 (List.Perm.refl _)))) ?_
  refine j_aload_n F dX6_begin_11 rfl 0 rfl ?_
  refine j_getf F (ref := "CairnGame") (C := RX6) (T := TX6) (N := 5) (ci := 6) (index := 12) (v := .ref sa) (fun w h => (List.mem_cons_of_mem _ (List.mem_append_left _ (List.mem_append_left _ (List.mem_append_right _ h))))) 0 rfl rfl 0 (by decide) (List.mem_cons_of_mem _ (List.mem_append_left _ (List.mem_append_left _ (List.mem_append_left _ (List.mem_append_left _ (List.mem_of_getElem? (l := wsX6_begin_r1) (i := 1) rfl)))))) rfl rfl dX6_begin_12 ?_
  refine J.permL (ws2 := stC g sa sb sd ((L.length : Nat) : Int) (G : Int) (S : Int) (M : Int) (Nn : Int) f hh ++ (gmC ga sa ho la so ta ++ (hoC g ho hrow (((nx + 1) % 6 : Nat) : Int) ((min (ct + 1) 6 : Nat) : Int) hf ++ (hsC g ha hb hd (hup hv nx (cpT (((L.length : Nat) : Int), (G : Int), (S : Int), (M : Int), (Nn : Int), f, hh) (hv nx))))))) (pm_c (pm_s pm_0) (pm_c pm_0 (pm_c pm_0 (List.Perm.refl _)))) ?_
  refine j_callVx_I F (As := []) (wr := gmC ga sa ho la so ta ++ (hoC g ho hrow (((nx + 1) % 6 : Nat) : Int) ((min (ct + 1) 6 : Nat) : Int) hf ++ (hsC g ha hb hd (hup hv nx (cpT (((L.length : Nat) : Int), (G : Int), (S : Int), (M : Int), (Nn : Int), f, hh) (hv nx)))))) (st := []) (c_X4_total hfl D g z sa sb sd L.length (G : Int) (S : Int) (M : Int) (Nn : Int) f hh hlen) (idx := 48) (C := RX4) gX6_begin_X4_total rfl rfl (ci := 4) (q0 := 0) rfl rfl (by decide) (by decide) (le_ble rfl) ⟨by decide, by decide⟩ dX6_begin_15 ?_
  rintro r9 u9 h9
  subst h9
  rw [sumI_sm hr]
  refine J.wsEq (ws2 := stC g sa sb sd ((L.length : Nat) : Int) (G : Int) (S : Int) (M : Int) (Nn : Int) f hh ++ (gmC ga sa ho la so ta ++ (hoC g ho hrow (((nx + 1) % 6 : Nat) : Int) ((min (ct + 1) 6 : Nat) : Int) hf ++ (hsC g ha hb hd (hup hv nx (cpT (((L.length : Nat) : Int), (G : Int), (S : Int), (M : Int), (Nn : Int), f, hh) (hv nx))))))) (by first | rfl | simp only [List.append_assoc, List.append_nil, List.nil_append]) ?_
  refine J.permL (ws2 := gmC ga sa ho la so ta ++ (stC g sa sb sd ((L.length : Nat) : Int) (G : Int) (S : Int) (M : Int) (Nn : Int) f hh ++ (hoC g ho hrow (((nx + 1) % 6 : Nat) : Int) ((min (ct + 1) 6 : Nat) : Int) hf ++ (hsC g ha hb hd (hup hv nx (cpT (((L.length : Nat) : Int), (G : Int), (S : Int), (M : Int), (Nn : Int), f, hh) (hv nx))))))) (pm_c (pm_s pm_0) (pm_c pm_0 (pm_c pm_0 (List.Perm.refl _)))) ?_
  refine j_istore_n F (lv' := [(1, .int (iI (((sm L) : Nat) : Int))), (0, .ref ga)]) dX6_begin_18 rfl (by decide) rfl ?_
  refine j_aload_n F dX6_begin_19 rfl 1 rfl ?_
  refine j_getf F (ref := "CairnGame") (C := RX6) (T := TX6) (N := 5) (ci := 6) (index := 12) (v := .ref sa) (fun w h => (List.mem_cons_of_mem _ (List.mem_append_left _ (List.mem_append_left _ (List.mem_append_right _ h))))) 0 rfl rfl 0 (by decide) (List.mem_cons_of_mem _ (List.mem_append_left _ (List.mem_append_left _ (List.mem_append_left _ (List.mem_append_left _ (List.mem_of_getElem? (l := wsX6_begin_r1) (i := 1) rfl)))))) rfl rfl dX6_begin_20 ?_
  refine J.permL (ws2 := stC g sa sb sd ((L.length : Nat) : Int) (G : Int) (S : Int) (M : Int) (Nn : Int) f hh ++ (gmC ga sa ho la so ta ++ (hoC g ho hrow (((nx + 1) % 6 : Nat) : Int) ((min (ct + 1) 6 : Nat) : Int) hf ++ (hsC g ha hb hd (hup hv nx (cpT (((L.length : Nat) : Int), (G : Int), (S : Int), (M : Int), (Nn : Int), f, hh) (hv nx))))))) (pm_c (pm_s pm_0) (pm_c pm_0 (pm_c pm_0 (List.Perm.refl _)))) ?_
  refine j_callVx_V F (As := []) (wr := gmC ga sa ho la so ta ++ (hoC g ho hrow (((nx + 1) % 6 : Nat) : Int) ((min (ct + 1) 6 : Nat) : Int) hf ++ (hsC g ha hb hd (hup hv nx (cpT (((L.length : Nat) : Int), (G : Int), (S : Int), (M : Int), (Nn : Int), f, hh) (hv nx)))))) (st := []) (c_X4_startAnew hfl D g z sa sb sd L.length (G : Int) (S : Int) (M : Int) (Nn : Int) f hh) (idx := 52) (C := RX4) gX6_begin_X4_startAnew rfl rfl (ci := 4) (q0 := 0) rfl rfl (by decide) (by decide) (le_ble rfl) ⟨by decide, by decide⟩ dX6_begin_23 ?_
  rintro u9 h9
  refine J.wsEq (ws2 := stC g sa sb sd 0 (G : Int) (S : Int) (M : Int) (Nn : Int) f (zrF hh 3) ++ (gmC ga sa ho la so ta ++ (hoC g ho hrow (((nx + 1) % 6 : Nat) : Int) ((min (ct + 1) 6 : Nat) : Int) hf ++ (hsC g ha hb hd (hup hv nx (cpT (((L.length : Nat) : Int), (G : Int), (S : Int), (M : Int), (Nn : Int), f, hh) (hv nx))))))) (by first | rfl | simp only [List.append_assoc, List.append_nil, List.nil_append]) ?_
  refine J.permL (ws2 := gmC ga sa ho la so ta ++ (stC g sa sb sd 0 (G : Int) (S : Int) (M : Int) (Nn : Int) f (zrF hh 3) ++ (hoC g ho hrow (((nx + 1) % 6 : Nat) : Int) ((min (ct + 1) 6 : Nat) : Int) hf ++ (hsC g ha hb hd (hup hv nx (cpT (((L.length : Nat) : Int), (G : Int), (S : Int), (M : Int), (Nn : Int), f, hh) (hv nx))))))) (pm_c (pm_s pm_0) (pm_c pm_0 (pm_c pm_0 (List.Perm.refl _)))) ?_
  refine j_iload_n F dX6_begin_26 rfl 0 rfl ?_
  exact ret _ () 0 0 _ _ dX6_begin_27 (by decide) (by decide) rfl

end X6