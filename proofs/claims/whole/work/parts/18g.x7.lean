/-! ===== the model: what it answers ===== -/
section X7G
theorem val_sort (G S M : Nat) (L : List Nat) : val G S M (sortL L) = val G S M L := val_perm (sortL_perm L)
def cs3 (c : C3) : Nat := c.1 + c.2.1 + c.2.2
theorem bhV_at {G S M : Nat} {L : List Nat} {j : Nat} (h : j < (mvL G S M L).length) : (bhV G S M L).getD j v0 = val G S M (bhM G S M L j) := bhW_at h
theorem tab_p {G S M : Nat} {T : TT} {p : Nat} {L : List Nat} (h : tabR G S M T 272) (hp : p < 272) (e : posT.getD p [] = sortL L) : T.2.2.2.1 p = (((val G S M L).1 : Nat) : Int) ∧ T.2.2.2.2.1 p = (((val G S M L).2.1 : Nat) : Int) ∧ T.2.2.2.2.2.1 p = (((val G S M L).2.2.1 : Nat) : Int) ∧ T.2.2.2.2.2.2.1 p = (((val G S M L).2.2.2 : Nat) : Int) := by
  have h9 := h p hp
  rw [e, val_sort] at h9
  exact h9

set_option maxHeartbeats 1000000 in
set_option maxRecDepth 100000 in
theorem c_X7_heaps {l : Launch} (hfl : l.flags = flags0) (D : va_G) (g : GT) (z : ZT) (ad : Nat → Nat) (th : Int) (cC : CT) (cT : TT) (cL : LT) (cP : PT) (H : List Nat) (G S M Nn : Nat) (c3 : C3) (hH : okH H) (hG : 1 ≤ G ∧ G ≤ 5) (hS : S ≤ 1) (hM : M ≤ 1) (hN : Nn ≤ 1) (hst : stM cC.1 H G S M Nn c3) : CI l yX7_heaps wsX7_heaps 2 41 0 D g z [.ref (ad 0)] (moC g ad th cC cT cL cP) (fun (r9 : Int32) (u9 : Unit) => r9 = iI ((H.length : Nat) : Int)) (fun (u9 : Unit) => moC g ad 0 cC cT cL cP) 0 0 := by
  refine CI_of hfl (own := RX7) ⟨1, 0, 0, 21⟩ 2 41 0 (by decide +kernel) rfl rfl ⟨by decide, by decide, by decide +kernel⟩ ⟨by decide, by decide⟩ (le_ble rfl) (fun _ _ _ => rfl) ?_
  intro p e s m below meth c A Q F ret
  change J p l e _ s m _ below meth c A D _ Q 0 0 (moC g ad th cC cT cL cP) [(0, .ref (ad 0))] [] 0
  have hlen := okH_len hH
  refine j_aload_n F dX7_heaps_0 rfl 0 rfl ?_
  refine j_aload_n F dX7_heaps_1 rfl 0 rfl ?_
  refine j_getf F (ref := "CairnGameModel") (C := RX7) (T := TX7) (N := 27) (ci := 7) (index := 7) (v := .ref (ad 1)) (fun w h => (List.mem_cons_of_mem _ (List.mem_append_right _ h))) 0 rfl rfl 1 (by decide) (List.mem_cons_of_mem _ (List.mem_append_left _ (List.mem_of_getElem? (i := 0) rfl))) rfl rfl dX7_heaps_2 ?_
  refine j_iconst F dX7_heaps_5 ?_
  refine j_iald F 1 (n := 20) (f := cC.1) rfl 4 (by decide) (by decide) (by decide) dX7_heaps_6 ?_
  refine J.top (congrArg iI (show cC.1 4 = ((H.length : Nat) : Int) from hst.2.2.2.2.1)) ?_
  refine j_callV_I F (As := [.int (iI ((H.length : Nat) : Int))]) (wr := []) (st := []) (c_X7_tells hfl D g z ad th cC cT cL cP ((H.length : Nat) : Int)) (idx := 148) (C := RX7) gX7_heaps_X7_tells rfl rfl [0, 1, 2, 3, 4, 5, 6, 7, 8, 9, 10, 11, 12, 13, 14] [] rfl rfl (by decide) (by decide) (by decide) (ci := 7) (q0 := 0) rfl rfl (by decide) (by decide) (le_ble rfl) ⟨by decide, by decide⟩ dX7_heaps_7 ?_
  rintro r2 u2 h2
  subst h2
  refine J.wsEq (ws2 := moC g ad 0 cC cT cL cP) rfl ?_
  exact ret _ () 0 0 _ _ dX7_heaps_10 (by decide) (by decide) rfl

set_option maxHeartbeats 1000000 in
set_option maxRecDepth 100000 in
theorem c_X7_greatestTake {l : Launch} (hfl : l.flags = flags0) (D : va_G) (g : GT) (z : ZT) (ad : Nat → Nat) (th : Int) (cC : CT) (cT : TT) (cL : LT) (cP : PT) (H : List Nat) (G S M Nn : Nat) (c3 : C3) (hH : okH H) (hG : 1 ≤ G ∧ G ≤ 5) (hS : S ≤ 1) (hM : M ≤ 1) (hN : Nn ≤ 1) (hst : stM cC.1 H G S M Nn c3) : CI l yX7_greatestTake wsX7_greatestTake 2 41 0 D g z [.ref (ad 0)] (moC g ad th cC cT cL cP) (fun (r9 : Int32) (u9 : Unit) => r9 = iI (G : Int)) (fun (u9 : Unit) => moC g ad 0 cC cT cL cP) 0 0 := by
  refine CI_of hfl (own := RX7) ⟨1, 0, 0, 21⟩ 2 41 0 (by decide +kernel) rfl rfl ⟨by decide, by decide, by decide +kernel⟩ ⟨by decide, by decide⟩ (le_ble rfl) (fun _ _ _ => rfl) ?_
  intro p e s m below meth c A Q F ret
  change J p l e _ s m _ below meth c A D _ Q 0 0 (moC g ad th cC cT cL cP) [(0, .ref (ad 0))] [] 0
  have hlen := okH_len hH
  refine j_aload_n F dX7_greatestTake_0 rfl 0 rfl ?_
  refine j_aload_n F dX7_greatestTake_1 rfl 0 rfl ?_
  refine j_getf F (ref := "CairnGameModel") (C := RX7) (T := TX7) (N := 27) (ci := 7) (index := 7) (v := .ref (ad 1)) (fun w h => (List.mem_cons_of_mem _ (List.mem_append_right _ h))) 0 rfl rfl 1 (by decide) (List.mem_cons_of_mem _ (List.mem_append_left _ (List.mem_of_getElem? (i := 0) rfl))) rfl rfl dX7_greatestTake_2 ?_
  refine j_iconst F dX7_greatestTake_5 ?_
  refine j_iald F 1 (n := 20) (f := cC.1) rfl 0 (by decide) (by decide) (by decide) dX7_greatestTake_6 ?_
  refine J.top (congrArg iI (show cC.1 0 = (G : Int) from hst.1)) ?_
  refine j_callV_I F (As := [.int (iI (G : Int))]) (wr := []) (st := []) (c_X7_tells hfl D g z ad th cC cT cL cP (G : Int)) (idx := 148) (C := RX7) gX7_greatestTake_X7_tells rfl rfl [0, 1, 2, 3, 4, 5, 6, 7, 8, 9, 10, 11, 12, 13, 14] [] rfl rfl (by decide) (by decide) (by decide) (ci := 7) (q0 := 0) rfl rfl (by decide) (by decide) (le_ble rfl) ⟨by decide, by decide⟩ dX7_greatestTake_7 ?_
  rintro r2 u2 h2
  subst h2
  refine J.wsEq (ws2 := moC g ad 0 cC cT cL cP) rfl ?_
  exact ret _ () 0 0 _ _ dX7_greatestTake_10 (by decide) (by decide) rfl

set_option maxHeartbeats 1000000 in
set_option maxRecDepth 100000 in
theorem c_X7_isSplitting {l : Launch} (hfl : l.flags = flags0) (D : va_G) (g : GT) (z : ZT) (ad : Nat → Nat) (th : Int) (cC : CT) (cT : TT) (cL : LT) (cP : PT) (H : List Nat) (G S M Nn : Nat) (c3 : C3) (hH : okH H) (hG : 1 ≤ G ∧ G ≤ 5) (hS : S ≤ 1) (hM : M ≤ 1) (hN : Nn ≤ 1) (hst : stM cC.1 H G S M Nn c3) : CI l yX7_isSplitting wsX7_isSplitting 2 41 0 D g z [.ref (ad 0)] (moC g ad th cC cT cL cP) (fun (r9 : Int32) (u9 : Unit) => r9 = iI (S : Int)) (fun (u9 : Unit) => moC g ad 0 cC cT cL cP) 0 0 := by
  refine CI_of hfl (own := RX7) ⟨1, 0, 0, 21⟩ 2 41 0 (by decide +kernel) rfl rfl ⟨by decide, by decide, by decide +kernel⟩ ⟨by decide, by decide⟩ (le_ble rfl) (fun _ _ h => nar_01 h (by omega)) ?_
  intro p e s m below meth c A Q F ret
  change J p l e _ s m _ below meth c A D _ Q 0 0 (moC g ad th cC cT cL cP) [(0, .ref (ad 0))] [] 0
  have hlen := okH_len hH
  refine j_aload_n F dX7_isSplitting_0 rfl 0 rfl ?_
  refine j_aload_n F dX7_isSplitting_1 rfl 0 rfl ?_
  refine j_getf F (ref := "CairnGameModel") (C := RX7) (T := TX7) (N := 27) (ci := 7) (index := 7) (v := .ref (ad 1)) (fun w h => (List.mem_cons_of_mem _ (List.mem_append_right _ h))) 0 rfl rfl 1 (by decide) (List.mem_cons_of_mem _ (List.mem_append_left _ (List.mem_of_getElem? (i := 0) rfl))) rfl rfl dX7_isSplitting_2 ?_
  refine j_iconst F dX7_isSplitting_5 ?_
  refine j_iald F 1 (n := 20) (f := cC.1) rfl 1 (by decide) (by decide) (by decide) dX7_isSplitting_6 ?_
  refine J.top (congrArg iI (show cC.1 1 = (S : Int) from hst.2.1)) ?_
  refine j_callV_I F (As := [.int (iI (S : Int))]) (wr := []) (st := []) (c_X7_tells hfl D g z ad th cC cT cL cP (S : Int)) (idx := 148) (C := RX7) gX7_isSplitting_X7_tells rfl rfl [0, 1, 2, 3, 4, 5, 6, 7, 8, 9, 10, 11, 12, 13, 14] [] rfl rfl (by decide) (by decide) (by decide) (ci := 7) (q0 := 0) rfl rfl (by decide) (by decide) (le_ble rfl) ⟨by decide, by decide⟩ dX7_isSplitting_7 ?_
  rintro r2 u2 h2
  subst h2
  refine J.wsEq (ws2 := moC g ad 0 cC cT cL cP) rfl ?_
  refine j_iconst F dX7_isSplitting_10 ?_
  refine j_icmp_ne F (tgt := 18) dX7_isSplitting_11 (by decide) ⟨(by unfold rg; omega), (by unfold rg; omega)⟩ (fun c11 => ?_) (fun c11 => ?_)
  · refine j_iconst F dX7_isSplitting_18 ?_
    exact ret _ () 0 0 _ _ dX7_isSplitting_19 (by decide) (by decide) (congrArg iI (by omega))
  · refine j_iconst F dX7_isSplitting_14 ?_
    refine j_goto F (tgt := 19) dX7_isSplitting_15 (by decide) ?_
    exact ret _ () 0 0 _ _ dX7_isSplitting_19 (by decide) (by decide) (congrArg iI (by omega))

set_option maxHeartbeats 1000000 in
set_option maxRecDepth 100000 in
theorem c_X7_isMerging {l : Launch} (hfl : l.flags = flags0) (D : va_G) (g : GT) (z : ZT) (ad : Nat → Nat) (th : Int) (cC : CT) (cT : TT) (cL : LT) (cP : PT) (H : List Nat) (G S M Nn : Nat) (c3 : C3) (hH : okH H) (hG : 1 ≤ G ∧ G ≤ 5) (hS : S ≤ 1) (hM : M ≤ 1) (hN : Nn ≤ 1) (hst : stM cC.1 H G S M Nn c3) : CI l yX7_isMerging wsX7_isMerging 2 41 0 D g z [.ref (ad 0)] (moC g ad th cC cT cL cP) (fun (r9 : Int32) (u9 : Unit) => r9 = iI (M : Int)) (fun (u9 : Unit) => moC g ad 0 cC cT cL cP) 0 0 := by
  refine CI_of hfl (own := RX7) ⟨1, 0, 0, 21⟩ 2 41 0 (by decide +kernel) rfl rfl ⟨by decide, by decide, by decide +kernel⟩ ⟨by decide, by decide⟩ (le_ble rfl) (fun _ _ h => nar_01 h (by omega)) ?_
  intro p e s m below meth c A Q F ret
  change J p l e _ s m _ below meth c A D _ Q 0 0 (moC g ad th cC cT cL cP) [(0, .ref (ad 0))] [] 0
  have hlen := okH_len hH
  refine j_aload_n F dX7_isMerging_0 rfl 0 rfl ?_
  refine j_aload_n F dX7_isMerging_1 rfl 0 rfl ?_
  refine j_getf F (ref := "CairnGameModel") (C := RX7) (T := TX7) (N := 27) (ci := 7) (index := 7) (v := .ref (ad 1)) (fun w h => (List.mem_cons_of_mem _ (List.mem_append_right _ h))) 0 rfl rfl 1 (by decide) (List.mem_cons_of_mem _ (List.mem_append_left _ (List.mem_of_getElem? (i := 0) rfl))) rfl rfl dX7_isMerging_2 ?_
  refine j_iconst F dX7_isMerging_5 ?_
  refine j_iald F 1 (n := 20) (f := cC.1) rfl 2 (by decide) (by decide) (by decide) dX7_isMerging_6 ?_
  refine J.top (congrArg iI (show cC.1 2 = (M : Int) from hst.2.2.1)) ?_
  refine j_callV_I F (As := [.int (iI (M : Int))]) (wr := []) (st := []) (c_X7_tells hfl D g z ad th cC cT cL cP (M : Int)) (idx := 148) (C := RX7) gX7_isMerging_X7_tells rfl rfl [0, 1, 2, 3, 4, 5, 6, 7, 8, 9, 10, 11, 12, 13, 14] [] rfl rfl (by decide) (by decide) (by decide) (ci := 7) (q0 := 0) rfl rfl (by decide) (by decide) (le_ble rfl) ⟨by decide, by decide⟩ dX7_isMerging_7 ?_
  rintro r2 u2 h2
  subst h2
  refine J.wsEq (ws2 := moC g ad 0 cC cT cL cP) rfl ?_
  refine j_iconst F dX7_isMerging_10 ?_
  refine j_icmp_ne F (tgt := 18) dX7_isMerging_11 (by decide) ⟨(by unfold rg; omega), (by unfold rg; omega)⟩ (fun c11 => ?_) (fun c11 => ?_)
  · refine j_iconst F dX7_isMerging_18 ?_
    exact ret _ () 0 0 _ _ dX7_isMerging_19 (by decide) (by decide) (congrArg iI (by omega))
  · refine j_iconst F dX7_isMerging_14 ?_
    refine j_goto F (tgt := 19) dX7_isMerging_15 (by decide) ?_
    exact ret _ () 0 0 _ _ dX7_isMerging_19 (by decide) (by decide) (congrArg iI (by omega))

set_option maxHeartbeats 1000000 in
set_option maxRecDepth 100000 in
theorem c_X7_isNormal {l : Launch} (hfl : l.flags = flags0) (D : va_G) (g : GT) (z : ZT) (ad : Nat → Nat) (th : Int) (cC : CT) (cT : TT) (cL : LT) (cP : PT) (H : List Nat) (G S M Nn : Nat) (c3 : C3) (hH : okH H) (hG : 1 ≤ G ∧ G ≤ 5) (hS : S ≤ 1) (hM : M ≤ 1) (hN : Nn ≤ 1) (hst : stM cC.1 H G S M Nn c3) : CI l yX7_isNormal wsX7_isNormal 2 41 0 D g z [.ref (ad 0)] (moC g ad th cC cT cL cP) (fun (r9 : Int32) (u9 : Unit) => r9 = iI (Nn : Int)) (fun (u9 : Unit) => moC g ad 0 cC cT cL cP) 0 0 := by
  refine CI_of hfl (own := RX7) ⟨1, 0, 0, 21⟩ 2 41 0 (by decide +kernel) rfl rfl ⟨by decide, by decide, by decide +kernel⟩ ⟨by decide, by decide⟩ (le_ble rfl) (fun _ _ h => nar_01 h (by omega)) ?_
  intro p e s m below meth c A Q F ret
  change J p l e _ s m _ below meth c A D _ Q 0 0 (moC g ad th cC cT cL cP) [(0, .ref (ad 0))] [] 0
  have hlen := okH_len hH
  refine j_aload_n F dX7_isNormal_0 rfl 0 rfl ?_
  refine j_aload_n F dX7_isNormal_1 rfl 0 rfl ?_
  refine j_getf F (ref := "CairnGameModel") (C := RX7) (T := TX7) (N := 27) (ci := 7) (index := 7) (v := .ref (ad 1)) (fun w h => (List.mem_cons_of_mem _ (List.mem_append_right _ h))) 0 rfl rfl 1 (by decide) (List.mem_cons_of_mem _ (List.mem_append_left _ (List.mem_of_getElem? (i := 0) rfl))) rfl rfl dX7_isNormal_2 ?_
  refine j_iconst F dX7_isNormal_5 ?_
  refine j_iald F 1 (n := 20) (f := cC.1) rfl 3 (by decide) (by decide) (by decide) dX7_isNormal_6 ?_
  refine J.top (congrArg iI (show cC.1 3 = (Nn : Int) from hst.2.2.2.1)) ?_
  refine j_callV_I F (As := [.int (iI (Nn : Int))]) (wr := []) (st := []) (c_X7_tells hfl D g z ad th cC cT cL cP (Nn : Int)) (idx := 148) (C := RX7) gX7_isNormal_X7_tells rfl rfl [0, 1, 2, 3, 4, 5, 6, 7, 8, 9, 10, 11, 12, 13, 14] [] rfl rfl (by decide) (by decide) (by decide) (ci := 7) (q0 := 0) rfl rfl (by decide) (by decide) (le_ble rfl) ⟨by decide, by decide⟩ dX7_isNormal_7 ?_
  rintro r2 u2 h2
  subst h2
  refine J.wsEq (ws2 := moC g ad 0 cC cT cL cP) rfl ?_
  refine j_iconst F dX7_isNormal_10 ?_
  refine j_icmp_ne F (tgt := 18) dX7_isNormal_11 (by decide) ⟨(by unfold rg; omega), (by unfold rg; omega)⟩ (fun c11 => ?_) (fun c11 => ?_)
  · refine j_iconst F dX7_isNormal_18 ?_
    exact ret _ () 0 0 _ _ dX7_isNormal_19 (by decide) (by decide) (congrArg iI (by omega))
  · refine j_iconst F dX7_isNormal_14 ?_
    refine j_goto F (tgt := 19) dX7_isNormal_15 (by decide) ?_
    exact ret _ () 0 0 _ _ dX7_isNormal_19 (by decide) (by decide) (congrArg iI (by omega))

set_option maxHeartbeats 1000000 in
set_option maxRecDepth 100000 in
theorem c_X7_stones {l : Launch} (hfl : l.flags = flags0) (D : va_G) (g : GT) (z : ZT) (ad : Nat → Nat) (th : Int) (cC : CT) (cT : TT) (cL : LT) (cP : PT) (H : List Nat) (G S M Nn : Nat) (c3 : C3) (hH : okH H) (hG : 1 ≤ G ∧ G ≤ 5) (hS : S ≤ 1) (hM : M ≤ 1) (hN : Nn ≤ 1) (hst : stM cC.1 H G S M Nn c3) : CI l yX7_stones wsX7_stones 2 42 0 D g z [.ref (ad 0)] (moC g ad th cC cT cL cP) (fun (r9 : Int32) (u9 : Unit) => r9 = iI ((sm H : Nat) : Int)) (fun (u9 : Unit) => moC g ad 0 cC cT cL cP) 0 0 := by
  refine CI_of hfl (own := RX7) ⟨1, 0, 0, 22⟩ 2 42 0 (by decide +kernel) rfl rfl ⟨by decide, by decide, by decide +kernel⟩ ⟨by decide, by decide⟩ (le_ble rfl) (fun _ _ _ => rfl) ?_
  intro p e s m below meth c A Q F ret
  change J p l e _ s m _ below meth c A D _ Q 0 0 (moC g ad th cC cT cL cP) [(0, .ref (ad 0))] [] 0
  have hlen := okH_len hH
  refine j_aload_n F dX7_stones_0 rfl 0 rfl ?_
  refine j_aload_n F dX7_stones_1 rfl 0 rfl ?_
  refine j_callV_I F (As := []) (wr := []) (st := [.ref (ad 0)]) (c_X7_sum hfl D g z ad th cC cT cL cP H G S M Nn c3 hH hG hS hM hN hst) (idx := 116) (C := RX7) gX7_stones_X7_sum rfl rfl [0, 1, 2, 3, 4, 5, 6, 7, 8, 9, 10, 11, 12, 13, 14] [] rfl rfl (by decide) (by decide) (by decide) (ci := 7) (q0 := 0) rfl rfl (by decide) (by decide) (le_ble rfl) ⟨by decide, by decide⟩ dX7_stones_2 ?_
  rintro r8 u8 h8
  subst h8
  refine J.wsEq (ws2 := moC g ad th cC cT cL cP) rfl ?_
  refine j_callV_I F (As := [.int (iI (((sm H) : Nat) : Int))]) (wr := []) (st := []) (c_X7_tells hfl D g z ad th cC cT cL cP ((sm H : Nat) : Int)) (idx := 148) (C := RX7) gX7_stones_X7_tells rfl rfl [0, 1, 2, 3, 4, 5, 6, 7, 8, 9, 10, 11, 12, 13, 14] [] rfl rfl (by decide) (by decide) (by decide) (ci := 7) (q0 := 0) rfl rfl (by decide) (by decide) (le_ble rfl) ⟨by decide, by decide⟩ dX7_stones_5 ?_
  rintro r2 u2 h2
  subst h2
  refine J.wsEq (ws2 := moC g ad 0 cC cT cL cP) rfl ?_
  exact ret _ () 0 0 _ _ dX7_stones_8 (by decide) (by decide) rfl

set_option maxHeartbeats 1000000 in
set_option maxRecDepth 100000 in
theorem c_X7_stonesOf {l : Launch} (hfl : l.flags = flags0) (D : va_G) (g : GT) (z : ZT) (ad : Nat → Nat) (th : Int) (cC : CT) (cT : TT) (cL : LT) (cP : PT) (H : List Nat) (G S M Nn : Nat) (c3 : C3) (x : Int) (hH : okH H) (hG : 1 ≤ G ∧ G ≤ 5) (hS : S ≤ 1) (hM : M ≤ 1) (hN : Nn ≤ 1) (hst : stM cC.1 H G S M Nn c3) (hx : rg x) (hi : (0 ≤ x ∧ x < (H.length : Int))) : CI l yX7_stonesOf wsX7_stonesOf 3 64 1 D g z [.ref (ad 0), .int (iI x)] (moC g ad th cC cT cL cP) (fun (r9 : Int32) (u9 : Unit) => r9 = iI ((H.getD x.toNat 0 : Nat) : Int)) (fun (u9 : Unit) => moC g ad 0 cC cT cL cP) 0 0 := by
  refine CI_of hfl (own := RX7) ⟨2, 0, 0, 43⟩ 3 64 1 (by decide +kernel) rfl rfl ⟨by decide, by decide, by decide +kernel⟩ ⟨by decide, by decide⟩ (le_ble rfl) (fun _ _ _ => rfl) ?_
  intro p e s m below meth c A Q F ret
  change J p l e _ s m _ below meth c A D _ Q 0 0 (moC g ad th cC cT cL cP) [(0, .ref (ad 0)), (1, .int (iI x))] [] 0
  have hlen := okH_len hH
  refine j_aload_n F dX7_stonesOf_0 rfl 0 rfl ?_
  refine j_aload_n F dX7_stonesOf_1 rfl 0 rfl ?_
  refine j_iload_n F dX7_stonesOf_2 rfl 1 rfl ?_
  refine j_callV_I F (As := [.int (iI x)]) (wr := []) (st := [.ref (ad 0)]) (c_X7_isHeap hfl D g z ad th cC cT cL cP H G S M Nn c3 x hH hG hS hM hN hst hx) (idx := 126) (C := RX7) gX7_stonesOf_X7_isHeap rfl rfl [0, 1, 2, 3, 4, 5, 6, 7, 8, 9, 10, 11, 12, 13, 14] [] rfl rfl (by decide) (by decide) (by decide) (ci := 7) (q0 := 0) rfl rfl (by decide) (by decide) (le_ble rfl) ⟨by decide, by decide⟩ dX7_stonesOf_3 ?_
  rintro r6 u6 h6
  subst h6
  refine J.wsEq (ws2 := moC g ad th cC cT cL cP) rfl ?_
  refine j_ifb_eq F (tgt := 13) dX7_stonesOf_6 (by decide)  (fun h9 => by exfalso; omega) (fun c6 => ?_)
  refine j_iconst F dX7_stonesOf_9 ?_
  refine j_goto F (tgt := 14) dX7_stonesOf_10 (by decide) ?_
  refine j_putf F (ref := "CairnGameModel") (C := RX7) (T := TX7) (N := 27) (ci := 7) (index := 60) (ty := .int) (ws' := moC g ad 0 cC cT cL cP) (fun w h => (List.mem_cons_of_mem _ (List.mem_append_right _ h))) tyX7 tyX7_ok nmX7 0 rfl rfl 0 (by decide) (List.mem_cons_of_mem _ (List.mem_append_left _ (List.mem_of_getElem? (i := 0) rfl))) rfl rfl rfl rfl rfl (lt_ble rfl) rfl dX7_stonesOf_14 ?_
  refine j_aload_n F dX7_stonesOf_17 rfl 0 rfl ?_
  refine j_getf F (ref := "CairnGameModel") (C := RX7) (T := TX7) (N := 27) (ci := 7) (index := 60) (v := .int (iI 0)) (fun w h => (List.mem_cons_of_mem _ (List.mem_append_right _ h))) 0 rfl rfl 0 (by decide) (List.mem_cons_of_mem _ (List.mem_append_left _ (List.mem_of_getElem? (i := 0) rfl))) rfl rfl dX7_stonesOf_18 ?_
  refine j_if_le F (tgt := 28) dX7_stonesOf_21 (by decide) (by unfold rg; omega) (fun c21 => ?_) (fun h9 => by exfalso; omega)
  refine j_aload_n F dX7_stonesOf_28 rfl 0 rfl ?_
  refine j_getf F (ref := "CairnGameModel") (C := RX7) (T := TX7) (N := 27) (ci := 7) (index := 7) (v := .ref (ad 1)) (fun w h => (List.mem_cons_of_mem _ (List.mem_append_right _ h))) 0 rfl rfl 1 (by decide) (List.mem_cons_of_mem _ (List.mem_append_left _ (List.mem_of_getElem? (i := 1) rfl))) rfl rfl dX7_stonesOf_29 ?_
  refine j_iconst F dX7_stonesOf_32 ?_
  refine j_iload_n F dX7_stonesOf_33 rfl 1 rfl ?_
  refine j_iadd F dX7_stonesOf_34 ?_
  refine j_iald F 1 (n := 20) (f := cC.1) rfl (5 + x.toNat) (by omega) (by omega) (by decide) dX7_stonesOf_35 ?_
  refine J.top (congrArg iI (show cC.1 (5 + x.toNat) = (((H.getD x.toNat 0) : Nat) : Int) from hst.2.2.2.2.2.1 x.toNat (by omega))) ?_
  exact ret _ () 0 0 _ _ dX7_stonesOf_36 (by decide) (by decide) rfl

set_option maxHeartbeats 1000000 in
set_option maxRecDepth 100000 in
theorem c_X7_stonesOf_t {l : Launch} (hfl : l.flags = flags0) (D : va_G) (g : GT) (z : ZT) (ad : Nat → Nat) (th : Int) (cC : CT) (cT : TT) (cL : LT) (cP : PT) (H : List Nat) (G S M Nn : Nat) (c3 : C3) (x : Int) (hH : okH H) (hG : 1 ≤ G ∧ G ≤ 5) (hS : S ≤ 1) (hM : M ≤ 1) (hN : Nn ≤ 1) (hst : stM cC.1 H G S M Nn c3) (hx : rg x) (hi : ¬ (0 ≤ x ∧ x < (H.length : Int))) : CI l yX7_stonesOf wsX7_stonesOf 3 64 1 D g z [.ref (ad 0), .int (iI x)] (moC g ad th cC cT cL cP) (fun (r9 : Int32) (u9 : Unit) => True) (fun (u9 : Unit) => moC g ad 1 cC cT cL cP) 0 0 := by
  refine CI_of hfl (own := RX7) ⟨2, 0, 0, 43⟩ 3 64 1 (by decide +kernel) rfl rfl ⟨by decide, by decide, by decide +kernel⟩ ⟨by decide, by decide⟩ (le_ble rfl) (fun _ _ _ => rfl) ?_
  intro p e s m below meth c A Q F ret
  change J p l e _ s m _ below meth c A D _ Q 0 0 (moC g ad th cC cT cL cP) [(0, .ref (ad 0)), (1, .int (iI x))] [] 0
  have hlen := okH_len hH
  refine j_aload_n F dX7_stonesOf_0 rfl 0 rfl ?_
  refine j_aload_n F dX7_stonesOf_1 rfl 0 rfl ?_
  refine j_iload_n F dX7_stonesOf_2 rfl 1 rfl ?_
  refine j_callV_I F (As := [.int (iI x)]) (wr := []) (st := [.ref (ad 0)]) (c_X7_isHeap hfl D g z ad th cC cT cL cP H G S M Nn c3 x hH hG hS hM hN hst hx) (idx := 126) (C := RX7) gX7_stonesOf_X7_isHeap rfl rfl [0, 1, 2, 3, 4, 5, 6, 7, 8, 9, 10, 11, 12, 13, 14] [] rfl rfl (by decide) (by decide) (by decide) (ci := 7) (q0 := 0) rfl rfl (by decide) (by decide) (le_ble rfl) ⟨by decide, by decide⟩ dX7_stonesOf_3 ?_
  rintro r6 u6 h6
  subst h6
  refine J.wsEq (ws2 := moC g ad th cC cT cL cP) rfl ?_
  refine j_ifb_eq F (tgt := 13) dX7_stonesOf_6 (by decide)  (fun c6 => ?_) (fun h9 => by exfalso; omega)
  refine j_iconst F dX7_stonesOf_13 ?_
  refine j_putf F (ref := "CairnGameModel") (C := RX7) (T := TX7) (N := 27) (ci := 7) (index := 60) (ty := .int) (ws' := moC g ad 1 cC cT cL cP) (fun w h => (List.mem_cons_of_mem _ (List.mem_append_right _ h))) tyX7 tyX7_ok nmX7 0 rfl rfl 0 (by decide) (List.mem_cons_of_mem _ (List.mem_append_left _ (List.mem_of_getElem? (i := 0) rfl))) rfl rfl rfl rfl rfl (lt_ble rfl) rfl dX7_stonesOf_14 ?_
  refine j_aload_n F dX7_stonesOf_17 rfl 0 rfl ?_
  refine j_getf F (ref := "CairnGameModel") (C := RX7) (T := TX7) (N := 27) (ci := 7) (index := 60) (v := .int (iI 1)) (fun w h => (List.mem_cons_of_mem _ (List.mem_append_right _ h))) 0 rfl rfl 0 (by decide) (List.mem_cons_of_mem _ (List.mem_append_left _ (List.mem_of_getElem? (i := 0) rfl))) rfl rfl dX7_stonesOf_18 ?_
  refine j_if_le F (tgt := 28) dX7_stonesOf_21 (by decide) (by unfold rg; omega) (fun h9 => by exfalso; omega) (fun c21 => ?_)
  refine j_iconst F dX7_stonesOf_24 ?_
  refine j_goto F (tgt := 36) dX7_stonesOf_25 (by decide) ?_
  exact ret _ () 0 0 _ _ dX7_stonesOf_36 (by decide) (by decide) trivial

set_option maxHeartbeats 1000000 in
set_option maxRecDepth 100000 in
theorem c_X7_allMade {l : Launch} (hfl : l.flags = flags0) (D : va_G) (g : GT) (z : ZT) (ad : Nat → Nat) (th : Int) (cC : CT) (cT : TT) (cL : LT) (cP : PT) (H : List Nat) (G S M Nn : Nat) (c3 : C3) (hH : okH H) (hG : 1 ≤ G ∧ G ≤ 5) (hS : S ≤ 1) (hM : M ≤ 1) (hN : Nn ≤ 1) (hst : stM cC.1 H G S M Nn c3) : CI l yX7_allMade wsX7_allMade 1 20 0 D g z [.ref (ad 0)] (moC g ad th cC cT cL cP) (fun (r9 : Int32) (u9 : Unit) => r9 = iI ((cs3 c3 : Nat) : Int)) (fun (u9 : Unit) => moC g ad th cC cT cL cP) 0 0 := by
  refine CI_of hfl (own := RX7) ⟨0, 0, 0, 0⟩ 1 20 0 (by decide +kernel) rfl rfl ⟨by decide, by decide, by decide +kernel⟩ ⟨by decide, by decide⟩ (le_ble rfl) (fun _ _ _ => rfl) ?_
  intro p e s m below meth c A Q F ret
  change J p l e _ s m _ below meth c A D _ Q 0 0 (moC g ad th cC cT cL cP) [(0, .ref (ad 0))] [] 0
  have hlen := okH_len hH
  refine j_aload_n F dX7_allMade_0 rfl 0 rfl ?_
  refine j_getf F (ref := "CairnGameModel") (C := RX7) (T := TX7) (N := 27) (ci := 7) (index := 7) (v := .ref (ad 1)) (fun w h => (List.mem_cons_of_mem _ (List.mem_append_right _ h))) 0 rfl rfl 1 (by decide) (List.mem_cons_of_mem _ (List.mem_append_left _ (List.mem_of_getElem? (i := 0) rfl))) rfl rfl dX7_allMade_1 ?_
  refine j_bipush F dX7_allMade_4 (by decide) ?_
  refine j_iald F 1 (n := 20) (f := cC.1) rfl 17 (by decide) (by decide) (by decide) dX7_allMade_6 ?_
  refine J.top (congrArg iI (show cC.1 17 = ((c3.1 : Nat) : Int) from hst.2.2.2.2.2.2.1)) ?_
  refine j_aload_n F dX7_allMade_7 rfl 0 rfl ?_
  refine j_getf F (ref := "CairnGameModel") (C := RX7) (T := TX7) (N := 27) (ci := 7) (index := 7) (v := .ref (ad 1)) (fun w h => (List.mem_cons_of_mem _ (List.mem_append_right _ h))) 0 rfl rfl 1 (by decide) (List.mem_cons_of_mem _ (List.mem_append_left _ (List.mem_of_getElem? (i := 0) rfl))) rfl rfl dX7_allMade_8 ?_
  refine j_bipush F dX7_allMade_11 (by decide) ?_
  refine j_iald F 1 (n := 20) (f := cC.1) rfl 18 (by decide) (by decide) (by decide) dX7_allMade_13 ?_
  refine J.top (congrArg iI (show cC.1 18 = ((c3.2.1 : Nat) : Int) from hst.2.2.2.2.2.2.2.1)) ?_
  refine j_iadd F dX7_allMade_14 ?_
  refine j_aload_n F dX7_allMade_15 rfl 0 rfl ?_
  refine j_getf F (ref := "CairnGameModel") (C := RX7) (T := TX7) (N := 27) (ci := 7) (index := 7) (v := .ref (ad 1)) (fun w h => (List.mem_cons_of_mem _ (List.mem_append_right _ h))) 0 rfl rfl 1 (by decide) (List.mem_cons_of_mem _ (List.mem_append_left _ (List.mem_of_getElem? (i := 0) rfl))) rfl rfl dX7_allMade_16 ?_
  refine j_bipush F dX7_allMade_19 (by decide) ?_
  refine j_iald F 1 (n := 20) (f := cC.1) rfl 19 (by decide) (by decide) (by decide) dX7_allMade_21 ?_
  refine J.top (congrArg iI (show cC.1 19 = ((c3.2.2 : Nat) : Int) from hst.2.2.2.2.2.2.2.2)) ?_
  refine j_iadd F dX7_allMade_22 ?_
  exact ret _ () 0 0 _ _ dX7_allMade_23 (by decide) (by decide) rfl

set_option maxHeartbeats 1000000 in
set_option maxRecDepth 100000 in
theorem c_X7_player {l : Launch} (hfl : l.flags = flags0) (D : va_G) (g : GT) (z : ZT) (ad : Nat → Nat) (th : Int) (cC : CT) (cT : TT) (cL : LT) (cP : PT) (H : List Nat) (G S M Nn : Nat) (c3 : C3) (hH : okH H) (hG : 1 ≤ G ∧ G ≤ 5) (hS : S ≤ 1) (hM : M ≤ 1) (hN : Nn ≤ 1) (hst : stM cC.1 H G S M Nn c3) (hmb : cs3 c3 < 2000000000) : CI l yX7_player wsX7_player 2 41 0 D g z [.ref (ad 0)] (moC g ad th cC cT cL cP) (fun (r9 : Int32) (u9 : Unit) => r9 = iI ((cs3 c3 % 2 : Nat) : Int)) (fun (u9 : Unit) => moC g ad 0 cC cT cL cP) 0 0 := by
  refine CI_of hfl (own := RX7) ⟨1, 0, 0, 21⟩ 2 41 0 (by decide +kernel) rfl rfl ⟨by decide, by decide, by decide +kernel⟩ ⟨by decide, by decide⟩ (le_ble rfl) (fun _ _ _ => rfl) ?_
  intro p e s m below meth c A Q F ret
  change J p l e _ s m _ below meth c A D _ Q 0 0 (moC g ad th cC cT cL cP) [(0, .ref (ad 0))] [] 0
  have hlen := okH_len hH
  refine j_aload_n F dX7_player_0 rfl 0 rfl ?_
  refine j_aload_n F dX7_player_1 rfl 0 rfl ?_
  refine j_callV_I F (As := []) (wr := []) (st := [.ref (ad 0)]) (c_X7_allMade hfl D g z ad th cC cT cL cP H G S M Nn c3 hH hG hS hM hN hst) (idx := 151) (C := RX7) gX7_player_X7_allMade rfl rfl [0, 1, 2, 3, 4, 5, 6, 7, 8, 9, 10, 11, 12, 13, 14] [] rfl rfl (by decide) (by decide) (by decide) (ci := 7) (q0 := 0) rfl rfl (by decide) (by decide) (le_ble rfl) ⟨by decide, by decide⟩ dX7_player_2 ?_
  rintro r8 u8 h8
  subst h8
  refine J.wsEq (ws2 := moC g ad th cC cT cL cP) rfl ?_
  refine j_iconst F dX7_player_5 ?_
  refine j_irem F dX7_player_6 (⟨by omega, by omega⟩) (⟨by omega, by omega⟩) ?_
  refine J.top (congrArg iI (show ((((cs3 c3) : Nat) : Int) % 2) = (((cs3 c3 % 2) : Nat) : Int) from by omega)) ?_
  refine j_callV_I F (As := [.int (iI (((cs3 c3 % 2) : Nat) : Int))]) (wr := []) (st := []) (c_X7_tells hfl D g z ad th cC cT cL cP ((cs3 c3 % 2 : Nat) : Int)) (idx := 148) (C := RX7) gX7_player_X7_tells rfl rfl [0, 1, 2, 3, 4, 5, 6, 7, 8, 9, 10, 11, 12, 13, 14] [] rfl rfl (by decide) (by decide) (by decide) (ci := 7) (q0 := 0) rfl rfl (by decide) (by decide) (le_ble rfl) ⟨by decide, by decide⟩ dX7_player_7 ?_
  rintro r2 u2 h2
  subst h2
  refine J.wsEq (ws2 := moC g ad 0 cC cT cL cP) rfl ?_
  exact ret _ () 0 0 _ _ dX7_player_10 (by decide) (by decide) rfl

set_option maxHeartbeats 1000000 in
set_option maxRecDepth 100000 in
theorem c_X7_made {l : Launch} (hfl : l.flags = flags0) (D : va_G) (g : GT) (z : ZT) (ad : Nat → Nat) (th : Int) (cC : CT) (cT : TT) (cL : LT) (cP : PT) (H : List Nat) (G S M Nn : Nat) (c3 : C3) (hH : okH H) (hG : 1 ≤ G ∧ G ≤ 5) (hS : S ≤ 1) (hM : M ≤ 1) (hN : Nn ≤ 1) (hst : stM cC.1 H G S M Nn c3) : CI l yX7_made wsX7_made 2 41 0 D g z [.ref (ad 0)] (moC g ad th cC cT cL cP) (fun (r9 : Int32) (u9 : Unit) => r9 = iI ((cs3 c3 : Nat) : Int)) (fun (u9 : Unit) => moC g ad 0 cC cT cL cP) 0 0 := by
  refine CI_of hfl (own := RX7) ⟨1, 0, 0, 21⟩ 2 41 0 (by decide +kernel) rfl rfl ⟨by decide, by decide, by decide +kernel⟩ ⟨by decide, by decide⟩ (le_ble rfl) (fun _ _ _ => rfl) ?_
  intro p e s m below meth c A Q F ret
  change J p l e _ s m _ below meth c A D _ Q 0 0 (moC g ad th cC cT cL cP) [(0, .ref (ad 0))] [] 0
  have hlen := okH_len hH
  refine j_aload_n F dX7_made_0 rfl 0 rfl ?_
  refine j_aload_n F dX7_made_1 rfl 0 rfl ?_
  refine j_callV_I F (As := []) (wr := []) (st := [.ref (ad 0)]) (c_X7_allMade hfl D g z ad th cC cT cL cP H G S M Nn c3 hH hG hS hM hN hst) (idx := 151) (C := RX7) gX7_made_X7_allMade rfl rfl [0, 1, 2, 3, 4, 5, 6, 7, 8, 9, 10, 11, 12, 13, 14] [] rfl rfl (by decide) (by decide) (by decide) (ci := 7) (q0 := 0) rfl rfl (by decide) (by decide) (le_ble rfl) ⟨by decide, by decide⟩ dX7_made_2 ?_
  rintro r8 u8 h8
  subst h8
  refine J.wsEq (ws2 := moC g ad th cC cT cL cP) rfl ?_
  refine j_callV_I F (As := [.int (iI (((cs3 c3) : Nat) : Int))]) (wr := []) (st := []) (c_X7_tells hfl D g z ad th cC cT cL cP ((cs3 c3 : Nat) : Int)) (idx := 148) (C := RX7) gX7_made_X7_tells rfl rfl [0, 1, 2, 3, 4, 5, 6, 7, 8, 9, 10, 11, 12, 13, 14] [] rfl rfl (by decide) (by decide) (by decide) (ci := 7) (q0 := 0) rfl rfl (by decide) (by decide) (le_ble rfl) ⟨by decide, by decide⟩ dX7_made_5 ?_
  rintro r2 u2 h2
  subst h2
  refine J.wsEq (ws2 := moC g ad 0 cC cT cL cP) rfl ?_
  exact ret _ () 0 0 _ _ dX7_made_8 (by decide) (by decide) rfl

def cAt (c : C3) (k : Nat) : Nat := if k = 0 then c.1 else if k = 1 then c.2.1 else c.2.2
theorem st_c {f : NF} {L : List Nat} {G S M Nn k : Nat} {c : C3} (h : stM f L G S M Nn c) (hk : k < 3) : f (17 + k) = ((cAt c k : Nat) : Int) := by
  unfold cAt
  rcases (show k = 0 ∨ k = 1 ∨ k = 2 by omega) with rfl | rfl | rfl
  · exact h.2.2.2.2.2.2.1
  · exact h.2.2.2.2.2.2.2.1
  · exact h.2.2.2.2.2.2.2.2

set_option maxHeartbeats 1000000 in
set_option maxRecDepth 100000 in
theorem c_X7_madeOf {l : Launch} (hfl : l.flags = flags0) (D : va_G) (g : GT) (z : ZT) (ad : Nat → Nat) (th : Int) (cC : CT) (cT : TT) (cL : LT) (cP : PT) (H : List Nat) (G S M Nn : Nat) (c3 : C3) (x : Int) (hH : okH H) (hG : 1 ≤ G ∧ G ≤ 5) (hS : S ≤ 1) (hM : M ≤ 1) (hN : Nn ≤ 1) (hst : stM cC.1 H G S M Nn c3) (hx : 0 ≤ x ∧ x < 3) : CI l yX7_madeOf wsX7_madeOf 2 43 1 D g z [.ref (ad 0), .int (iI x)] (moC g ad th cC cT cL cP) (fun (r9 : Int32) (u9 : Unit) => r9 = iI ((cAt c3 x.toNat : Nat) : Int)) (fun (u9 : Unit) => moC g ad 0 cC cT cL cP) 0 0 := by
  refine CI_of hfl (own := RX7) ⟨1, 0, 0, 22⟩ 2 43 1 (by decide +kernel) rfl rfl ⟨by decide, by decide, by decide +kernel⟩ ⟨by decide, by decide⟩ (le_ble rfl) (fun _ _ _ => rfl) ?_
  intro p e s m below meth c A Q F ret
  change J p l e _ s m _ below meth c A D _ Q 0 0 (moC g ad th cC cT cL cP) [(0, .ref (ad 0)), (1, .int (iI x))] [] 0
  have hlen := okH_len hH
  refine j_aload_n F dX7_madeOf_0 rfl 0 rfl ?_
  refine j_iload_n F dX7_madeOf_1 rfl 1 rfl ?_
  refine j_iconst F dX7_madeOf_2 ?_
  refine j_iconst F dX7_madeOf_3 ?_
  refine j_callS_I F (As := [.int (iI x), .int (iI 0), .int (iI 2)]) (wr := moC g ad th cC cT cL cP) (st := [.ref (ad 0)]) (c_X7_within hfl D g z x 0 2 (by unfold rg; omega) (by unfold rg; omega) (by unfold rg; omega)) (idx := 119) gX7_madeOf_X7_within rfl [] [0, 1, 2, 3, 4, 5, 6, 7, 8, 9, 10, 11, 12, 13, 14] rfl rfl (by decide) (by decide) (by decide)  (by decide) (by decide) (le_ble rfl) ⟨by decide, by decide⟩ dX7_madeOf_4 ?_
  rintro r7 u7 h7
  subst h7
  refine J.wsEq (ws2 := moC g ad th cC cT cL cP) rfl ?_
  refine j_ifb_eq F (tgt := 14) dX7_madeOf_7 (by decide)  (fun h9 => by exfalso; omega) (fun c7 => ?_)
  refine j_iconst F dX7_madeOf_10 ?_
  refine j_goto F (tgt := 15) dX7_madeOf_11 (by decide) ?_
  refine j_putf F (ref := "CairnGameModel") (C := RX7) (T := TX7) (N := 27) (ci := 7) (index := 60) (ty := .int) (ws' := moC g ad 0 cC cT cL cP) (fun w h => (List.mem_cons_of_mem _ (List.mem_append_right _ h))) tyX7 tyX7_ok nmX7 0 rfl rfl 0 (by decide) (List.mem_cons_of_mem _ (List.mem_append_left _ (List.mem_of_getElem? (i := 0) rfl))) rfl rfl rfl rfl rfl (lt_ble rfl) rfl dX7_madeOf_15 ?_
  refine j_aload_n F dX7_madeOf_18 rfl 0 rfl ?_
  refine j_getf F (ref := "CairnGameModel") (C := RX7) (T := TX7) (N := 27) (ci := 7) (index := 60) (v := .int (iI 0)) (fun w h => (List.mem_cons_of_mem _ (List.mem_append_right _ h))) 0 rfl rfl 0 (by decide) (List.mem_cons_of_mem _ (List.mem_append_left _ (List.mem_of_getElem? (i := 0) rfl))) rfl rfl dX7_madeOf_19 ?_
  refine j_if_le F (tgt := 29) dX7_madeOf_22 (by decide) (by unfold rg; omega) (fun c22 => ?_) (fun h9 => by exfalso; omega)
  refine j_aload_n F dX7_madeOf_29 rfl 0 rfl ?_
  refine j_getf F (ref := "CairnGameModel") (C := RX7) (T := TX7) (N := 27) (ci := 7) (index := 7) (v := .ref (ad 1)) (fun w h => (List.mem_cons_of_mem _ (List.mem_append_right _ h))) 0 rfl rfl 1 (by decide) (List.mem_cons_of_mem _ (List.mem_append_left _ (List.mem_of_getElem? (i := 1) rfl))) rfl rfl dX7_madeOf_30 ?_
  refine j_bipush F dX7_madeOf_33 (by decide) ?_
  refine j_iload_n F dX7_madeOf_35 rfl 1 rfl ?_
  refine j_iadd F dX7_madeOf_36 ?_
  refine j_iald F 1 (n := 20) (f := cC.1) rfl (17 + x.toNat) (by omega) (by omega) (by decide) dX7_madeOf_37 ?_
  refine J.top (congrArg iI (show cC.1 (17 + x.toNat) = (((cAt c3 x.toNat) : Nat) : Int) from st_c hst (by omega))) ?_
  exact ret _ () 0 0 _ _ dX7_madeOf_38 (by decide) (by decide) rfl

set_option maxHeartbeats 1000000 in
set_option maxRecDepth 100000 in
theorem c_X7_madeOf_t {l : Launch} (hfl : l.flags = flags0) (D : va_G) (g : GT) (z : ZT) (ad : Nat → Nat) (th : Int) (cC : CT) (cT : TT) (cL : LT) (cP : PT) (H : List Nat) (G S M Nn : Nat) (c3 : C3) (x : Int) (hH : okH H) (hG : 1 ≤ G ∧ G ≤ 5) (hS : S ≤ 1) (hM : M ≤ 1) (hN : Nn ≤ 1) (hst : stM cC.1 H G S M Nn c3) (hx : rg x) (hi : ¬ (0 ≤ x ∧ x < 3)) : CI l yX7_madeOf wsX7_madeOf 2 43 1 D g z [.ref (ad 0), .int (iI x)] (moC g ad th cC cT cL cP) (fun (r9 : Int32) (u9 : Unit) => True) (fun (u9 : Unit) => moC g ad 1 cC cT cL cP) 0 0 := by
  refine CI_of hfl (own := RX7) ⟨1, 0, 0, 22⟩ 2 43 1 (by decide +kernel) rfl rfl ⟨by decide, by decide, by decide +kernel⟩ ⟨by decide, by decide⟩ (le_ble rfl) (fun _ _ _ => rfl) ?_
  intro p e s m below meth c A Q F ret
  change J p l e _ s m _ below meth c A D _ Q 0 0 (moC g ad th cC cT cL cP) [(0, .ref (ad 0)), (1, .int (iI x))] [] 0
  have hlen := okH_len hH
  refine j_aload_n F dX7_madeOf_0 rfl 0 rfl ?_
  refine j_iload_n F dX7_madeOf_1 rfl 1 rfl ?_
  refine j_iconst F dX7_madeOf_2 ?_
  refine j_iconst F dX7_madeOf_3 ?_
  refine j_callS_I F (As := [.int (iI x), .int (iI 0), .int (iI 2)]) (wr := moC g ad th cC cT cL cP) (st := [.ref (ad 0)]) (c_X7_within hfl D g z x 0 2 hx (by unfold rg; omega) (by unfold rg; omega)) (idx := 119) gX7_madeOf_X7_within rfl [] [0, 1, 2, 3, 4, 5, 6, 7, 8, 9, 10, 11, 12, 13, 14] rfl rfl (by decide) (by decide) (by decide)  (by decide) (by decide) (le_ble rfl) ⟨by decide, by decide⟩ dX7_madeOf_4 ?_
  rintro r7 u7 h7
  subst h7
  refine J.wsEq (ws2 := moC g ad th cC cT cL cP) rfl ?_
  refine j_ifb_eq F (tgt := 14) dX7_madeOf_7 (by decide)  (fun c7 => ?_) (fun h9 => by exfalso; omega)
  refine j_iconst F dX7_madeOf_14 ?_
  refine j_putf F (ref := "CairnGameModel") (C := RX7) (T := TX7) (N := 27) (ci := 7) (index := 60) (ty := .int) (ws' := moC g ad 1 cC cT cL cP) (fun w h => (List.mem_cons_of_mem _ (List.mem_append_right _ h))) tyX7 tyX7_ok nmX7 0 rfl rfl 0 (by decide) (List.mem_cons_of_mem _ (List.mem_append_left _ (List.mem_of_getElem? (i := 0) rfl))) rfl rfl rfl rfl rfl (lt_ble rfl) rfl dX7_madeOf_15 ?_
  refine j_aload_n F dX7_madeOf_18 rfl 0 rfl ?_
  refine j_getf F (ref := "CairnGameModel") (C := RX7) (T := TX7) (N := 27) (ci := 7) (index := 60) (v := .int (iI 1)) (fun w h => (List.mem_cons_of_mem _ (List.mem_append_right _ h))) 0 rfl rfl 0 (by decide) (List.mem_cons_of_mem _ (List.mem_append_left _ (List.mem_of_getElem? (i := 0) rfl))) rfl rfl dX7_madeOf_19 ?_
  refine j_if_le F (tgt := 29) dX7_madeOf_22 (by decide) (by unfold rg; omega) (fun h9 => by exfalso; omega) (fun c22 => ?_)
  refine j_iconst F dX7_madeOf_25 ?_
  refine j_goto F (tgt := 38) dX7_madeOf_26 (by decide) ?_
  exact ret _ () 0 0 _ _ dX7_madeOf_38 (by decide) (by decide) trivial

set_option maxHeartbeats 1000000 in
set_option maxRecDepth 100000 in
theorem c_X7_victor {l : Launch} (hfl : l.flags = flags0) (D : va_G) (g : GT) (z : ZT) (ad : Nat → Nat) (th : Int) (cC : CT) (cT : TT) (cL : LT) (cP : PT) (H : List Nat) (G S M Nn : Nat) (c3 : C3) (hH : okH H) (hG : 1 ≤ G ∧ G ≤ 5) (hS : S ≤ 1) (hM : M ≤ 1) (hN : Nn ≤ 1) (hst : stM cC.1 H G S M Nn c3) (hmb : cs3 c3 < 2000000000) : CI l yX7_victor wsX7_victor 2 41 0 D g z [.ref (ad 0)] (moC g ad th cC cT cL cP) (fun (r9 : Int32) (u9 : Unit) => r9 = iI (wnrF H.length (cs3 c3) Nn)) (fun (u9 : Unit) => moC g ad th cC cT cL cP) 0 0 := by
  refine CI_of hfl (own := RX7) ⟨1, 0, 0, 20⟩ 2 41 0 (by decide +kernel) rfl rfl ⟨by decide, by decide, by decide +kernel⟩ ⟨by decide, by decide⟩ (le_ble rfl) (fun _ _ _ => rfl) ?_
  intro p e s m below meth c A Q F ret
  change J p l e _ s m _ below meth c A D _ Q 0 0 (moC g ad th cC cT cL cP) [(0, .ref (ad 0))] [] 0
  have hlen := okH_len hH
  refine j_iconst F dX7_victor_0 ?_
  refine j_aload_n F dX7_victor_1 rfl 0 rfl ?_
  refine j_callV_I F (As := []) (wr := []) (st := [.int (iI 1)]) (c_X7_allMade hfl D g z ad th cC cT cL cP H G S M Nn c3 hH hG hS hM hN hst) (idx := 151) (C := RX7) gX7_victor_X7_allMade rfl rfl [0, 1, 2, 3, 4, 5, 6, 7, 8, 9, 10, 11, 12, 13, 14] [] rfl rfl (by decide) (by decide) (by decide) (ci := 7) (q0 := 0) rfl rfl (by decide) (by decide) (le_ble rfl) ⟨by decide, by decide⟩ dX7_victor_2 ?_
  rintro r8 u8 h8
  subst h8
  refine J.wsEq (ws2 := moC g ad th cC cT cL cP) rfl ?_
  refine j_iconst F dX7_victor_5 ?_
  refine j_irem F dX7_victor_6 (⟨by omega, by omega⟩) (⟨by omega, by omega⟩) ?_
  refine J.top (congrArg iI (show ((((cs3 c3) : Nat) : Int) % 2) = (((cs3 c3 % 2) : Nat) : Int) from by omega)) ?_
  refine j_isub F dX7_victor_7 ?_
  refine j_istore_n F (lv' := [(1, .int (iI (1 - (((cs3 c3 % 2) : Nat) : Int)))), (0, .ref (ad 0))]) dX7_victor_8 rfl (by decide) rfl ?_
  refine j_aload_n F dX7_victor_9 rfl 1 rfl ?_
  refine j_getf F (ref := "CairnGameModel") (C := RX7) (T := TX7) (N := 27) (ci := 7) (index := 7) (v := .ref (ad 1)) (fun w h => (List.mem_cons_of_mem _ (List.mem_append_right _ h))) 0 rfl rfl 1 (by decide) (List.mem_cons_of_mem _ (List.mem_append_left _ (List.mem_of_getElem? (i := 0) rfl))) rfl rfl dX7_victor_10 ?_
  refine j_iconst F dX7_victor_13 ?_
  refine j_iald F 1 (n := 20) (f := cC.1) rfl 4 (by decide) (by decide) (by decide) dX7_victor_14 ?_
  refine J.top (congrArg iI (show cC.1 4 = ((H.length : Nat) : Int) from hst.2.2.2.2.1)) ?_
  refine j_if_gt F (tgt := 25) dX7_victor_15 (by decide) (by unfold rg; omega) (fun c15 => ?_) (fun c15 => ?_)
  · refine j_iconst F dX7_victor_25 ?_
    refine j_goto F (tgt := 46) dX7_victor_26 (by decide) ?_
    exact ret _ () 0 0 _ _ dX7_victor_46 (by decide) (by decide) (congrArg iI (by unfold wnrF; first | rw [if_pos (by omega)] | rw [if_neg (by omega), if_pos (by omega)]; omega | rw [if_neg (by omega), if_neg (by omega)]; try omega))
  · refine j_aload_n F dX7_victor_18 rfl 1 rfl ?_
    refine j_callV_I F (As := []) (wr := []) (st := []) (c_X7_allMade hfl D g z ad th cC cT cL cP H G S M Nn c3 hH hG hS hM hN hst) (idx := 151) (C := RX7) gX7_victor_X7_allMade rfl rfl [0, 1, 2, 3, 4, 5, 6, 7, 8, 9, 10, 11, 12, 13, 14] [] rfl rfl (by decide) (by decide) (by decide) (ci := 7) (q0 := 0) rfl rfl (by decide) (by decide) (le_ble rfl) ⟨by decide, by decide⟩ dX7_victor_19 ?_
    rintro r8 u8 h8
    subst h8
    refine J.wsEq (ws2 := moC g ad th cC cT cL cP) rfl ?_
    refine j_if_ne F (tgt := 29) dX7_victor_22 (by decide) (by unfold rg; omega) (fun c22 => ?_) (fun c22 => ?_)
    · refine j_aload_n F dX7_victor_29 rfl 1 rfl ?_
      refine j_getf F (ref := "CairnGameModel") (C := RX7) (T := TX7) (N := 27) (ci := 7) (index := 7) (v := .ref (ad 1)) (fun w h => (List.mem_cons_of_mem _ (List.mem_append_right _ h))) 0 rfl rfl 1 (by decide) (List.mem_cons_of_mem _ (List.mem_append_left _ (List.mem_of_getElem? (i := 0) rfl))) rfl rfl dX7_victor_30 ?_
      refine j_iconst F dX7_victor_33 ?_
      refine j_iald F 1 (n := 20) (f := cC.1) rfl 3 (by decide) (by decide) (by decide) dX7_victor_34 ?_
      refine J.top (congrArg iI (show cC.1 3 = (Nn : Int) from hst.2.2.2.1)) ?_
      refine j_iconst F dX7_victor_35 ?_
      refine j_icmp_ne F (tgt := 43) dX7_victor_36 (by decide) ⟨(by unfold rg; omega), (by unfold rg; omega)⟩ (fun c36 => ?_) (fun c36 => ?_)
      · refine j_iconst F dX7_victor_43 ?_
        refine j_iload_n F dX7_victor_44 rfl 0 rfl ?_
        refine j_isub F dX7_victor_45 ?_
        exact ret _ () 0 0 _ _ dX7_victor_46 (by decide) (by decide) (congrArg iI (by unfold wnrF; first | rw [if_pos (by omega)] | rw [if_neg (by omega), if_pos (by omega)]; omega | rw [if_neg (by omega), if_neg (by omega)]; try omega))
      · refine j_iload_n F dX7_victor_39 rfl 0 rfl ?_
        refine j_goto F (tgt := 46) dX7_victor_40 (by decide) ?_
        exact ret _ () 0 0 _ _ dX7_victor_46 (by decide) (by decide) (congrArg iI (by unfold wnrF; first | rw [if_pos (by omega)] | rw [if_neg (by omega), if_pos (by omega)]; omega | rw [if_neg (by omega), if_neg (by omega)]; try omega))
    · refine j_iconst F dX7_victor_25 ?_
      refine j_goto F (tgt := 46) dX7_victor_26 (by decide) ?_
      exact ret _ () 0 0 _ _ dX7_victor_46 (by decide) (by decide) (congrArg iI (by unfold wnrF; first | rw [if_pos (by omega)] | rw [if_neg (by omega), if_pos (by omega)]; omega | rw [if_neg (by omega), if_neg (by omega)]; try omega))

set_option maxHeartbeats 1000000 in
set_option maxRecDepth 100000 in
theorem c_X7_winner {l : Launch} (hfl : l.flags = flags0) (D : va_G) (g : GT) (z : ZT) (ad : Nat → Nat) (th : Int) (cC : CT) (cT : TT) (cL : LT) (cP : PT) (H : List Nat) (G S M Nn : Nat) (c3 : C3) (hH : okH H) (hG : 1 ≤ G ∧ G ≤ 5) (hS : S ≤ 1) (hM : M ≤ 1) (hN : Nn ≤ 1) (hst : stM cC.1 H G S M Nn c3) (hmb : cs3 c3 < 2000000000) : CI l yX7_winner wsX7_winner 3 61 0 D g z [.ref (ad 0)] (moC g ad th cC cT cL cP) (fun (r9 : Int32) (u9 : Unit) => r9 = iI (wnrF H.length (cs3 c3) Nn)) (fun (u9 : Unit) => moC g ad 0 cC cT cL cP) 0 0 := by
  refine CI_of hfl (own := RX7) ⟨2, 0, 0, 41⟩ 3 61 0 (by decide +kernel) rfl rfl ⟨by decide, by decide, by decide +kernel⟩ ⟨by decide, by decide⟩ (le_ble rfl) (fun _ _ _ => rfl) ?_
  intro p e s m below meth c A Q F ret
  change J p l e _ s m _ below meth c A D _ Q 0 0 (moC g ad th cC cT cL cP) [(0, .ref (ad 0))] [] 0
  have hlen := okH_len hH
  refine j_aload_n F dX7_winner_0 rfl 0 rfl ?_
  refine j_aload_n F dX7_winner_1 rfl 0 rfl ?_
  refine j_callV_I F (As := []) (wr := []) (st := [.ref (ad 0)]) (c_X7_victor hfl D g z ad th cC cT cL cP H G S M Nn c3 hH hG hS hM hN hst hmb) (idx := 154) (C := RX7) gX7_winner_X7_victor rfl rfl [0, 1, 2, 3, 4, 5, 6, 7, 8, 9, 10, 11, 12, 13, 14] [] rfl rfl (by decide) (by decide) (by decide) (ci := 7) (q0 := 0) rfl rfl (by decide) (by decide) (le_ble rfl) ⟨by decide, by decide⟩ dX7_winner_2 ?_
  rintro r8 u8 h8
  subst h8
  refine J.wsEq (ws2 := moC g ad th cC cT cL cP) rfl ?_
  refine j_callV_I F (As := [.int (iI (wnrF H.length (cs3 c3) Nn))]) (wr := []) (st := []) (c_X7_tells hfl D g z ad th cC cT cL cP (wnrF H.length (cs3 c3) Nn)) (idx := 148) (C := RX7) gX7_winner_X7_tells rfl rfl [0, 1, 2, 3, 4, 5, 6, 7, 8, 9, 10, 11, 12, 13, 14] [] rfl rfl (by decide) (by decide) (by decide) (ci := 7) (q0 := 0) rfl rfl (by decide) (by decide) (le_ble rfl) ⟨by decide, by decide⟩ dX7_winner_5 ?_
  rintro r2 u2 h2
  subst h2
  refine J.wsEq (ws2 := moC g ad 0 cC cT cL cP) rfl ?_
  exact ret _ () 0 0 _ _ dX7_winner_8 (by decide) (by decide) rfl

set_option maxHeartbeats 1000000 in
set_option maxRecDepth 100000 in
theorem c_X7_moves {l : Launch} (hfl : l.flags = flags0) (D : va_G) (g : GT) (z : ZT) (ad : Nat → Nat) (th : Int) (cC : CT) (cT : TT) (cL : LT) (cP : PT) (H : List Nat) (G S M Nn : Nat) (c3 : C3) (hT : tabS cT) (hH : okH H) (hG : 1 ≤ G ∧ G ≤ 5) (hS : S ≤ 1) (hM : M ≤ 1) (hN : Nn ≤ 1) (hst : stM cC.1 H G S M Nn c3) : CI l yX7_moves wsX7_moves 7 159 0 D g z [.ref (ad 0)] (moC g ad th cC cT cL cP) (fun (r9 : Int32) (u9 : TT × NF × NF × NF × NF × NF × Nat) => tabT G S M u9.1 ∧ r9 = iI (((mvL G S M H).length : Nat) : Int)) (fun (u9 : TT × NF × NF × NF × NF × NF × Nat) => moC g ad 0 cC (u9.1.1, u9.1.2.1, u9.1.2.2.1, u9.1.2.2.2.1, u9.1.2.2.2.2.1, u9.1.2.2.2.2.2.1, u9.1.2.2.2.2.2.2.1, u9.1.2.2.2.2.2.2.2) (u9.2.1, ((H.length : Nat) : Int), u9.2.2.1, u9.2.2.2.1, u9.2.2.2.2.1, (((mvL G S M H).length : Nat) : Int), u9.2.2.2.2.2.1, ((H.length : Nat) : Int)) cP) 0 0 := by
  refine CI_of hfl (own := RX7) ⟨6, 0, 0, 139⟩ 7 159 0 (by decide +kernel) rfl rfl ⟨by decide, by decide, by decide +kernel⟩ ⟨by decide, by decide⟩ (le_ble rfl) (fun _ _ _ => rfl) ?_
  intro p e s m below meth c A Q F ret
  change J p l e _ s m _ below meth c A D _ Q 0 0 (moC g ad th cC cT cL cP) [(0, .ref (ad 0))] [] 0
  have hlen := okH_len hH
  have hl84 := mvL_len (g := G) (sp := S) (mg := M) hH
  refine j_aload_n F dX7_moves_0 rfl 0 rfl ?_
  refine j_callV_I F (As := []) (wr := []) (st := []) (c_X7_looks hfl D g z ad th cC cT cL cP H G S M Nn c3 hT hH hG hS hM hN hst) (idx := 129) (C := RX7) gX7_moves_X7_looks rfl rfl [0, 1, 2, 3, 4, 5, 6, 7, 8, 9, 10, 11, 12, 13, 14] [] rfl rfl (by decide) (by decide) (by decide) (ci := 7) (q0 := 0) rfl rfl (by decide) (by decide) (le_ble rfl) ⟨by decide, by decide⟩ dX7_moves_1 ?_
  rintro r9 u9 ⟨h9, q9, e9, h7, h6, h5, h4⟩
  subst h9
  refine J.wsEq (ws2 := moC g ad th cC (u9.1.1, u9.1.2.1, u9.1.2.2.1, u9.1.2.2.2.1, u9.1.2.2.2.2.1, u9.1.2.2.2.2.2.1, u9.1.2.2.2.2.2.2.1, u9.1.2.2.2.2.2.2.2) (u9.2.1, ((H.length : Nat) : Int), u9.2.2.1, u9.2.2.2.1, u9.2.2.2.2.1, (((mvL G S M H).length : Nat) : Int), u9.2.2.2.2.2.1, ((H.length : Nat) : Int)) cP) rfl ?_
  refine j_pop F dX7_moves_4 rfl ?_
  refine j_aload_n F dX7_moves_5 rfl 0 rfl ?_
  refine j_aload_n F dX7_moves_6 rfl 0 rfl ?_
  refine j_getf F (ref := "CairnGameModel") (C := RX7) (T := TX7) (N := 27) (ci := 7) (index := 76) (v := .int (iI (((mvL G S M H).length : Nat) : Int))) (fun w h => (List.mem_cons_of_mem _ (List.mem_append_right _ h))) 0 rfl rfl 19 (by decide) (List.mem_cons_of_mem _ (List.mem_append_left _ (List.mem_append_left _ (List.mem_of_getElem? (l := wsX7_moves_r1) (i := 0) rfl)))) rfl rfl dX7_moves_7 ?_
  refine j_callV_I F (As := [.int (iI (((mvL G S M H).length : Nat) : Int))]) (wr := []) (st := []) (c_X7_tells hfl D g z ad th cC u9.1 (u9.2.1, ((H.length : Nat) : Int), u9.2.2.1, u9.2.2.2.1, u9.2.2.2.2.1, (((mvL G S M H).length : Nat) : Int), u9.2.2.2.2.2.1, ((H.length : Nat) : Int)) cP (((mvL G S M H).length : Nat) : Int)) (idx := 148) (C := RX7) gX7_moves_X7_tells rfl rfl [0, 1, 2, 3, 4, 5, 6, 7, 8, 9, 10, 11, 12, 13, 14] [] rfl rfl (by decide) (by decide) (by decide) (ci := 7) (q0 := 0) rfl rfl (by decide) (by decide) (le_ble rfl) ⟨by decide, by decide⟩ dX7_moves_10 ?_
  rintro r2 u2 h2
  subst h2
  refine J.wsEq (ws2 := moC g ad 0 cC (u9.1.1, u9.1.2.1, u9.1.2.2.1, u9.1.2.2.2.1, u9.1.2.2.2.2.1, u9.1.2.2.2.2.2.1, u9.1.2.2.2.2.2.2.1, u9.1.2.2.2.2.2.2.2) (u9.2.1, ((H.length : Nat) : Int), u9.2.2.1, u9.2.2.2.1, u9.2.2.2.2.1, (((mvL G S M H).length : Nat) : Int), u9.2.2.2.2.2.1, ((H.length : Nat) : Int)) cP) rfl ?_
  exact ret _ u9 0 0 _ _ dX7_moves_13 (by decide) (by decide) (⟨h7, rfl⟩)

set_option maxHeartbeats 1000000 in
set_option maxRecDepth 100000 in
theorem c_X7_kindOf {l : Launch} (hfl : l.flags = flags0) (D : va_G) (g : GT) (z : ZT) (ad : Nat → Nat) (th : Int) (cC : CT) (cT : TT) (cL : LT) (cP : PT) (H : List Nat) (G S M Nn : Nat) (c3 : C3) (x : Int) (hT : tabS cT) (hH : okH H) (hG : 1 ≤ G ∧ G ≤ 5) (hS : S ≤ 1) (hM : M ≤ 1) (hN : Nn ≤ 1) (hst : stM cC.1 H G S M Nn c3) (hx : rg x) (hi : (0 ≤ x ∧ x < (((mvL G S M H).length : Nat) : Int))) : CI l yX7_kindOf wsX7_kindOf 8 181 1 D g z [.ref (ad 0), .int (iI x)] (moC g ad th cC cT cL cP) (fun (r9 : Int32) (u9 : TT × NF × NF × NF × NF × NF × Nat) => tabT G S M u9.1 ∧ r9 = iI ((((mvL G S M H).getD x.toNat m0).1 : Nat) : Int)) (fun (u9 : TT × NF × NF × NF × NF × NF × Nat) => moC g ad 0 cC (u9.1.1, u9.1.2.1, u9.1.2.2.1, u9.1.2.2.2.1, u9.1.2.2.2.2.1, u9.1.2.2.2.2.2.1, u9.1.2.2.2.2.2.2.1, u9.1.2.2.2.2.2.2.2) (u9.2.1, ((H.length : Nat) : Int), u9.2.2.1, u9.2.2.2.1, u9.2.2.2.2.1, (((mvL G S M H).length : Nat) : Int), u9.2.2.2.2.2.1, ((H.length : Nat) : Int)) cP) 0 0 := by
  refine CI_of hfl (own := RX7) ⟨7, 0, 0, 160⟩ 8 181 1 (by decide +kernel) rfl rfl ⟨by decide, by decide, by decide +kernel⟩ ⟨by decide, by decide⟩ (le_ble rfl) (fun _ _ _ => rfl) ?_
  intro p e s m below meth c A Q F ret
  change J p l e _ s m _ below meth c A D _ Q 0 0 (moC g ad th cC cT cL cP) [(0, .ref (ad 0)), (1, .int (iI x))] [] 0
  have hlen := okH_len hH
  have hl84 := mvL_len (g := G) (sp := S) (mg := M) hH
  refine j_aload_n F dX7_kindOf_0 rfl 0 rfl ?_
  refine j_iload_n F dX7_kindOf_1 rfl 1 rfl ?_
  refine j_callV_I F (As := [.int (iI x)]) (wr := []) (st := []) (c_X7_asksMove hfl D g z ad th cC cT cL cP H G S M Nn c3 x hT hH hG hS hM hN hst hx hi) (idx := 145) (C := RX7) gX7_kindOf_X7_asksMove rfl rfl [0, 1, 2, 3, 4, 5, 6, 7, 8, 9, 10, 11, 12, 13, 14] [] rfl rfl (by decide) (by decide) (by decide) (ci := 7) (q0 := 0) rfl rfl (by decide) (by decide) (le_ble rfl) ⟨by decide, by decide⟩ dX7_kindOf_2 ?_
  rintro r9 u9 ⟨⟨e9, q9, h7, h6, h5, h4⟩, h9⟩
  subst h9
  refine J.wsEq (ws2 := moC g ad 0 cC (u9.1.1, u9.1.2.1, u9.1.2.2.1, u9.1.2.2.2.1, u9.1.2.2.2.2.1, u9.1.2.2.2.2.2.1, u9.1.2.2.2.2.2.2.1, u9.1.2.2.2.2.2.2.2) (u9.2.1, ((H.length : Nat) : Int), u9.2.2.1, u9.2.2.2.1, u9.2.2.2.2.1, (((mvL G S M H).length : Nat) : Int), u9.2.2.2.2.2.1, ((H.length : Nat) : Int)) cP) rfl ?_
  refine j_if_eq F (tgt := 17) dX7_kindOf_5 (by decide) (by unfold rg; omega) (fun h9 => by exfalso; omega) (fun c5 => ?_)
  refine j_aload_n F dX7_kindOf_8 rfl 0 rfl ?_
  refine j_getf F (ref := "CairnGameModel") (C := RX7) (T := TX7) (N := 27) (ci := 7) (index := 40) (v := .ref (ad 16)) (fun w h => (List.mem_cons_of_mem _ (List.mem_append_right _ h))) 0 rfl rfl 16 (by decide) (List.mem_cons_of_mem _ (List.mem_append_left _ (List.mem_append_left _ (List.mem_of_getElem? (l := wsX7_kindOf_r1) (i := 0) rfl)))) rfl rfl dX7_kindOf_9 ?_
  refine j_iload_n F dX7_kindOf_12 rfl 1 rfl ?_
  refine j_iald F 11 (n := 100) (f := u9.2.2.1) rfl x.toNat (by omega) (by omega) (by decide) dX7_kindOf_13 ?_
  refine J.top (congrArg iI (show u9.2.2.1 x.toNat = ((((mvL G S M H).getD x.toNat m0).1 : Nat) : Int) from (h5 x.toNat (by omega)).1)) ?_
  refine j_goto F (tgt := 18) dX7_kindOf_14 (by decide) ?_
  exact ret _ u9 0 0 _ _ dX7_kindOf_18 (by decide) (by decide) (⟨h7, rfl⟩)

set_option maxHeartbeats 1000000 in
set_option maxRecDepth 100000 in
theorem c_X7_kindOf_t {l : Launch} (hfl : l.flags = flags0) (D : va_G) (g : GT) (z : ZT) (ad : Nat → Nat) (th : Int) (cC : CT) (cT : TT) (cL : LT) (cP : PT) (H : List Nat) (G S M Nn : Nat) (c3 : C3) (x : Int) (hT : tabS cT) (hH : okH H) (hG : 1 ≤ G ∧ G ≤ 5) (hS : S ≤ 1) (hM : M ≤ 1) (hN : Nn ≤ 1) (hst : stM cC.1 H G S M Nn c3) (hx : rg x) (hi : ¬ (0 ≤ x ∧ x < (((mvL G S M H).length : Nat) : Int))) : CI l yX7_kindOf wsX7_kindOf 8 181 1 D g z [.ref (ad 0), .int (iI x)] (moC g ad th cC cT cL cP) (fun (r9 : Int32) (u9 : TT × NF × NF × NF × NF × NF × Nat) => tabT G S M u9.1) (fun (u9 : TT × NF × NF × NF × NF × NF × Nat) => moC g ad 1 cC (u9.1.1, u9.1.2.1, u9.1.2.2.1, u9.1.2.2.2.1, u9.1.2.2.2.2.1, u9.1.2.2.2.2.2.1, u9.1.2.2.2.2.2.2.1, u9.1.2.2.2.2.2.2.2) (u9.2.1, ((H.length : Nat) : Int), u9.2.2.1, u9.2.2.2.1, u9.2.2.2.2.1, (((mvL G S M H).length : Nat) : Int), u9.2.2.2.2.2.1, ((H.length : Nat) : Int)) cP) 0 0 := by
  refine CI_of hfl (own := RX7) ⟨7, 0, 0, 160⟩ 8 181 1 (by decide +kernel) rfl rfl ⟨by decide, by decide, by decide +kernel⟩ ⟨by decide, by decide⟩ (le_ble rfl) (fun _ _ _ => rfl) ?_
  intro p e s m below meth c A Q F ret
  change J p l e _ s m _ below meth c A D _ Q 0 0 (moC g ad th cC cT cL cP) [(0, .ref (ad 0)), (1, .int (iI x))] [] 0
  have hlen := okH_len hH
  have hl84 := mvL_len (g := G) (sp := S) (mg := M) hH
  refine j_aload_n F dX7_kindOf_0 rfl 0 rfl ?_
  refine j_iload_n F dX7_kindOf_1 rfl 1 rfl ?_
  refine j_callV_I F (As := [.int (iI x)]) (wr := []) (st := []) (c_X7_asksMove_t hfl D g z ad th cC cT cL cP H G S M Nn c3 x hT hH hG hS hM hN hst hx hi) (idx := 145) (C := RX7) gX7_kindOf_X7_asksMove rfl rfl [0, 1, 2, 3, 4, 5, 6, 7, 8, 9, 10, 11, 12, 13, 14] [] rfl rfl (by decide) (by decide) (by decide) (ci := 7) (q0 := 0) rfl rfl (by decide) (by decide) (le_ble rfl) ⟨by decide, by decide⟩ dX7_kindOf_2 ?_
  rintro r9 u9 ⟨⟨e9, q9, h7, h6, h5, h4⟩, h9⟩
  subst h9
  refine J.wsEq (ws2 := moC g ad 1 cC (u9.1.1, u9.1.2.1, u9.1.2.2.1, u9.1.2.2.2.1, u9.1.2.2.2.2.1, u9.1.2.2.2.2.2.1, u9.1.2.2.2.2.2.2.1, u9.1.2.2.2.2.2.2.2) (u9.2.1, ((H.length : Nat) : Int), u9.2.2.1, u9.2.2.2.1, u9.2.2.2.2.1, (((mvL G S M H).length : Nat) : Int), u9.2.2.2.2.2.1, ((H.length : Nat) : Int)) cP) rfl ?_
  refine j_if_eq F (tgt := 17) dX7_kindOf_5 (by decide) (by unfold rg; omega) (fun c5 => ?_) (fun h9 => by exfalso; omega)
  refine j_iconst F dX7_kindOf_17 ?_
  exact ret _ u9 0 0 _ _ dX7_kindOf_18 (by decide) (by decide) h7

set_option maxHeartbeats 1000000 in
set_option maxRecDepth 100000 in
theorem c_X7_heapOf {l : Launch} (hfl : l.flags = flags0) (D : va_G) (g : GT) (z : ZT) (ad : Nat → Nat) (th : Int) (cC : CT) (cT : TT) (cL : LT) (cP : PT) (H : List Nat) (G S M Nn : Nat) (c3 : C3) (x : Int) (hT : tabS cT) (hH : okH H) (hG : 1 ≤ G ∧ G ≤ 5) (hS : S ≤ 1) (hM : M ≤ 1) (hN : Nn ≤ 1) (hst : stM cC.1 H G S M Nn c3) (hx : rg x) (hi : (0 ≤ x ∧ x < (((mvL G S M H).length : Nat) : Int))) : CI l yX7_heapOf wsX7_heapOf 8 181 1 D g z [.ref (ad 0), .int (iI x)] (moC g ad th cC cT cL cP) (fun (r9 : Int32) (u9 : TT × NF × NF × NF × NF × NF × Nat) => tabT G S M u9.1 ∧ r9 = iI ((((mvL G S M H).getD x.toNat m0).2.1 : Nat) : Int)) (fun (u9 : TT × NF × NF × NF × NF × NF × Nat) => moC g ad 0 cC (u9.1.1, u9.1.2.1, u9.1.2.2.1, u9.1.2.2.2.1, u9.1.2.2.2.2.1, u9.1.2.2.2.2.2.1, u9.1.2.2.2.2.2.2.1, u9.1.2.2.2.2.2.2.2) (u9.2.1, ((H.length : Nat) : Int), u9.2.2.1, u9.2.2.2.1, u9.2.2.2.2.1, (((mvL G S M H).length : Nat) : Int), u9.2.2.2.2.2.1, ((H.length : Nat) : Int)) cP) 0 0 := by
  refine CI_of hfl (own := RX7) ⟨7, 0, 0, 160⟩ 8 181 1 (by decide +kernel) rfl rfl ⟨by decide, by decide, by decide +kernel⟩ ⟨by decide, by decide⟩ (le_ble rfl) (fun _ _ _ => rfl) ?_
  intro p e s m below meth c A Q F ret
  change J p l e _ s m _ below meth c A D _ Q 0 0 (moC g ad th cC cT cL cP) [(0, .ref (ad 0)), (1, .int (iI x))] [] 0
  have hlen := okH_len hH
  have hl84 := mvL_len (g := G) (sp := S) (mg := M) hH
  refine j_aload_n F dX7_heapOf_0 rfl 0 rfl ?_
  refine j_iload_n F dX7_heapOf_1 rfl 1 rfl ?_
  refine j_callV_I F (As := [.int (iI x)]) (wr := []) (st := []) (c_X7_asksMove hfl D g z ad th cC cT cL cP H G S M Nn c3 x hT hH hG hS hM hN hst hx hi) (idx := 145) (C := RX7) gX7_heapOf_X7_asksMove rfl rfl [0, 1, 2, 3, 4, 5, 6, 7, 8, 9, 10, 11, 12, 13, 14] [] rfl rfl (by decide) (by decide) (by decide) (ci := 7) (q0 := 0) rfl rfl (by decide) (by decide) (le_ble rfl) ⟨by decide, by decide⟩ dX7_heapOf_2 ?_
  rintro r9 u9 ⟨⟨e9, q9, h7, h6, h5, h4⟩, h9⟩
  subst h9
  refine J.wsEq (ws2 := moC g ad 0 cC (u9.1.1, u9.1.2.1, u9.1.2.2.1, u9.1.2.2.2.1, u9.1.2.2.2.2.1, u9.1.2.2.2.2.2.1, u9.1.2.2.2.2.2.2.1, u9.1.2.2.2.2.2.2.2) (u9.2.1, ((H.length : Nat) : Int), u9.2.2.1, u9.2.2.2.1, u9.2.2.2.2.1, (((mvL G S M H).length : Nat) : Int), u9.2.2.2.2.2.1, ((H.length : Nat) : Int)) cP) rfl ?_
  refine j_if_eq F (tgt := 17) dX7_heapOf_5 (by decide) (by unfold rg; omega) (fun h9 => by exfalso; omega) (fun c5 => ?_)
  refine j_aload_n F dX7_heapOf_8 rfl 0 rfl ?_
  refine j_getf F (ref := "CairnGameModel") (C := RX7) (T := TX7) (N := 27) (ci := 7) (index := 43) (v := .ref (ad 17)) (fun w h => (List.mem_cons_of_mem _ (List.mem_append_right _ h))) 0 rfl rfl 17 (by decide) (List.mem_cons_of_mem _ (List.mem_append_left _ (List.mem_append_left _ (List.mem_of_getElem? (l := wsX7_heapOf_r1) (i := 0) rfl)))) rfl rfl dX7_heapOf_9 ?_
  refine j_iload_n F dX7_heapOf_12 rfl 1 rfl ?_
  refine j_iald F 12 (n := 100) (f := u9.2.2.2.1) rfl x.toNat (by omega) (by omega) (by decide) dX7_heapOf_13 ?_
  refine J.top (congrArg iI (show u9.2.2.2.1 x.toNat = ((((mvL G S M H).getD x.toNat m0).2.1 : Nat) : Int) from (h5 x.toNat (by omega)).2.1)) ?_
  refine j_goto F (tgt := 18) dX7_heapOf_14 (by decide) ?_
  exact ret _ u9 0 0 _ _ dX7_heapOf_18 (by decide) (by decide) (⟨h7, rfl⟩)

set_option maxHeartbeats 1000000 in
set_option maxRecDepth 100000 in
theorem c_X7_heapOf_t {l : Launch} (hfl : l.flags = flags0) (D : va_G) (g : GT) (z : ZT) (ad : Nat → Nat) (th : Int) (cC : CT) (cT : TT) (cL : LT) (cP : PT) (H : List Nat) (G S M Nn : Nat) (c3 : C3) (x : Int) (hT : tabS cT) (hH : okH H) (hG : 1 ≤ G ∧ G ≤ 5) (hS : S ≤ 1) (hM : M ≤ 1) (hN : Nn ≤ 1) (hst : stM cC.1 H G S M Nn c3) (hx : rg x) (hi : ¬ (0 ≤ x ∧ x < (((mvL G S M H).length : Nat) : Int))) : CI l yX7_heapOf wsX7_heapOf 8 181 1 D g z [.ref (ad 0), .int (iI x)] (moC g ad th cC cT cL cP) (fun (r9 : Int32) (u9 : TT × NF × NF × NF × NF × NF × Nat) => tabT G S M u9.1) (fun (u9 : TT × NF × NF × NF × NF × NF × Nat) => moC g ad 1 cC (u9.1.1, u9.1.2.1, u9.1.2.2.1, u9.1.2.2.2.1, u9.1.2.2.2.2.1, u9.1.2.2.2.2.2.1, u9.1.2.2.2.2.2.2.1, u9.1.2.2.2.2.2.2.2) (u9.2.1, ((H.length : Nat) : Int), u9.2.2.1, u9.2.2.2.1, u9.2.2.2.2.1, (((mvL G S M H).length : Nat) : Int), u9.2.2.2.2.2.1, ((H.length : Nat) : Int)) cP) 0 0 := by
  refine CI_of hfl (own := RX7) ⟨7, 0, 0, 160⟩ 8 181 1 (by decide +kernel) rfl rfl ⟨by decide, by decide, by decide +kernel⟩ ⟨by decide, by decide⟩ (le_ble rfl) (fun _ _ _ => rfl) ?_
  intro p e s m below meth c A Q F ret
  change J p l e _ s m _ below meth c A D _ Q 0 0 (moC g ad th cC cT cL cP) [(0, .ref (ad 0)), (1, .int (iI x))] [] 0
  have hlen := okH_len hH
  have hl84 := mvL_len (g := G) (sp := S) (mg := M) hH
  refine j_aload_n F dX7_heapOf_0 rfl 0 rfl ?_
  refine j_iload_n F dX7_heapOf_1 rfl 1 rfl ?_
  refine j_callV_I F (As := [.int (iI x)]) (wr := []) (st := []) (c_X7_asksMove_t hfl D g z ad th cC cT cL cP H G S M Nn c3 x hT hH hG hS hM hN hst hx hi) (idx := 145) (C := RX7) gX7_heapOf_X7_asksMove rfl rfl [0, 1, 2, 3, 4, 5, 6, 7, 8, 9, 10, 11, 12, 13, 14] [] rfl rfl (by decide) (by decide) (by decide) (ci := 7) (q0 := 0) rfl rfl (by decide) (by decide) (le_ble rfl) ⟨by decide, by decide⟩ dX7_heapOf_2 ?_
  rintro r9 u9 ⟨⟨e9, q9, h7, h6, h5, h4⟩, h9⟩
  subst h9
  refine J.wsEq (ws2 := moC g ad 1 cC (u9.1.1, u9.1.2.1, u9.1.2.2.1, u9.1.2.2.2.1, u9.1.2.2.2.2.1, u9.1.2.2.2.2.2.1, u9.1.2.2.2.2.2.2.1, u9.1.2.2.2.2.2.2.2) (u9.2.1, ((H.length : Nat) : Int), u9.2.2.1, u9.2.2.2.1, u9.2.2.2.2.1, (((mvL G S M H).length : Nat) : Int), u9.2.2.2.2.2.1, ((H.length : Nat) : Int)) cP) rfl ?_
  refine j_if_eq F (tgt := 17) dX7_heapOf_5 (by decide) (by unfold rg; omega) (fun c5 => ?_) (fun h9 => by exfalso; omega)
  refine j_iconst F dX7_heapOf_17 ?_
  exact ret _ u9 0 0 _ _ dX7_heapOf_18 (by decide) (by decide) h7

set_option maxHeartbeats 1000000 in
set_option maxRecDepth 100000 in
theorem c_X7_amountOf {l : Launch} (hfl : l.flags = flags0) (D : va_G) (g : GT) (z : ZT) (ad : Nat → Nat) (th : Int) (cC : CT) (cT : TT) (cL : LT) (cP : PT) (H : List Nat) (G S M Nn : Nat) (c3 : C3) (x : Int) (hT : tabS cT) (hH : okH H) (hG : 1 ≤ G ∧ G ≤ 5) (hS : S ≤ 1) (hM : M ≤ 1) (hN : Nn ≤ 1) (hst : stM cC.1 H G S M Nn c3) (hx : rg x) (hi : (0 ≤ x ∧ x < (((mvL G S M H).length : Nat) : Int))) : CI l yX7_amountOf wsX7_amountOf 8 181 1 D g z [.ref (ad 0), .int (iI x)] (moC g ad th cC cT cL cP) (fun (r9 : Int32) (u9 : TT × NF × NF × NF × NF × NF × Nat) => tabT G S M u9.1 ∧ r9 = iI ((((mvL G S M H).getD x.toNat m0).2.2 : Nat) : Int)) (fun (u9 : TT × NF × NF × NF × NF × NF × Nat) => moC g ad 0 cC (u9.1.1, u9.1.2.1, u9.1.2.2.1, u9.1.2.2.2.1, u9.1.2.2.2.2.1, u9.1.2.2.2.2.2.1, u9.1.2.2.2.2.2.2.1, u9.1.2.2.2.2.2.2.2) (u9.2.1, ((H.length : Nat) : Int), u9.2.2.1, u9.2.2.2.1, u9.2.2.2.2.1, (((mvL G S M H).length : Nat) : Int), u9.2.2.2.2.2.1, ((H.length : Nat) : Int)) cP) 0 0 := by
  refine CI_of hfl (own := RX7) ⟨7, 0, 0, 160⟩ 8 181 1 (by decide +kernel) rfl rfl ⟨by decide, by decide, by decide +kernel⟩ ⟨by decide, by decide⟩ (le_ble rfl) (fun _ _ _ => rfl) ?_
  intro p e s m below meth c A Q F ret
  change J p l e _ s m _ below meth c A D _ Q 0 0 (moC g ad th cC cT cL cP) [(0, .ref (ad 0)), (1, .int (iI x))] [] 0
  have hlen := okH_len hH
  have hl84 := mvL_len (g := G) (sp := S) (mg := M) hH
  refine j_aload_n F dX7_amountOf_0 rfl 0 rfl ?_
  refine j_iload_n F dX7_amountOf_1 rfl 1 rfl ?_
  refine j_callV_I F (As := [.int (iI x)]) (wr := []) (st := []) (c_X7_asksMove hfl D g z ad th cC cT cL cP H G S M Nn c3 x hT hH hG hS hM hN hst hx hi) (idx := 145) (C := RX7) gX7_amountOf_X7_asksMove rfl rfl [0, 1, 2, 3, 4, 5, 6, 7, 8, 9, 10, 11, 12, 13, 14] [] rfl rfl (by decide) (by decide) (by decide) (ci := 7) (q0 := 0) rfl rfl (by decide) (by decide) (le_ble rfl) ⟨by decide, by decide⟩ dX7_amountOf_2 ?_
  rintro r9 u9 ⟨⟨e9, q9, h7, h6, h5, h4⟩, h9⟩
  subst h9
  refine J.wsEq (ws2 := moC g ad 0 cC (u9.1.1, u9.1.2.1, u9.1.2.2.1, u9.1.2.2.2.1, u9.1.2.2.2.2.1, u9.1.2.2.2.2.2.1, u9.1.2.2.2.2.2.2.1, u9.1.2.2.2.2.2.2.2) (u9.2.1, ((H.length : Nat) : Int), u9.2.2.1, u9.2.2.2.1, u9.2.2.2.2.1, (((mvL G S M H).length : Nat) : Int), u9.2.2.2.2.2.1, ((H.length : Nat) : Int)) cP) rfl ?_
  refine j_if_eq F (tgt := 17) dX7_amountOf_5 (by decide) (by unfold rg; omega) (fun h9 => by exfalso; omega) (fun c5 => ?_)
  refine j_aload_n F dX7_amountOf_8 rfl 0 rfl ?_
  refine j_getf F (ref := "CairnGameModel") (C := RX7) (T := TX7) (N := 27) (ci := 7) (index := 46) (v := .ref (ad 18)) (fun w h => (List.mem_cons_of_mem _ (List.mem_append_right _ h))) 0 rfl rfl 18 (by decide) (List.mem_cons_of_mem _ (List.mem_append_left _ (List.mem_append_left _ (List.mem_of_getElem? (l := wsX7_amountOf_r1) (i := 0) rfl)))) rfl rfl dX7_amountOf_9 ?_
  refine j_iload_n F dX7_amountOf_12 rfl 1 rfl ?_
  refine j_iald F 13 (n := 100) (f := u9.2.2.2.2.1) rfl x.toNat (by omega) (by omega) (by decide) dX7_amountOf_13 ?_
  refine J.top (congrArg iI (show u9.2.2.2.2.1 x.toNat = ((((mvL G S M H).getD x.toNat m0).2.2 : Nat) : Int) from (h5 x.toNat (by omega)).2.2)) ?_
  refine j_goto F (tgt := 18) dX7_amountOf_14 (by decide) ?_
  exact ret _ u9 0 0 _ _ dX7_amountOf_18 (by decide) (by decide) (⟨h7, rfl⟩)

set_option maxHeartbeats 1000000 in
set_option maxRecDepth 100000 in
theorem c_X7_amountOf_t {l : Launch} (hfl : l.flags = flags0) (D : va_G) (g : GT) (z : ZT) (ad : Nat → Nat) (th : Int) (cC : CT) (cT : TT) (cL : LT) (cP : PT) (H : List Nat) (G S M Nn : Nat) (c3 : C3) (x : Int) (hT : tabS cT) (hH : okH H) (hG : 1 ≤ G ∧ G ≤ 5) (hS : S ≤ 1) (hM : M ≤ 1) (hN : Nn ≤ 1) (hst : stM cC.1 H G S M Nn c3) (hx : rg x) (hi : ¬ (0 ≤ x ∧ x < (((mvL G S M H).length : Nat) : Int))) : CI l yX7_amountOf wsX7_amountOf 8 181 1 D g z [.ref (ad 0), .int (iI x)] (moC g ad th cC cT cL cP) (fun (r9 : Int32) (u9 : TT × NF × NF × NF × NF × NF × Nat) => tabT G S M u9.1) (fun (u9 : TT × NF × NF × NF × NF × NF × Nat) => moC g ad 1 cC (u9.1.1, u9.1.2.1, u9.1.2.2.1, u9.1.2.2.2.1, u9.1.2.2.2.2.1, u9.1.2.2.2.2.2.1, u9.1.2.2.2.2.2.2.1, u9.1.2.2.2.2.2.2.2) (u9.2.1, ((H.length : Nat) : Int), u9.2.2.1, u9.2.2.2.1, u9.2.2.2.2.1, (((mvL G S M H).length : Nat) : Int), u9.2.2.2.2.2.1, ((H.length : Nat) : Int)) cP) 0 0 := by
  refine CI_of hfl (own := RX7) ⟨7, 0, 0, 160⟩ 8 181 1 (by decide +kernel) rfl rfl ⟨by decide, by decide, by decide +kernel⟩ ⟨by decide, by decide⟩ (le_ble rfl) (fun _ _ _ => rfl) ?_
  intro p e s m below meth c A Q F ret
  change J p l e _ s m _ below meth c A D _ Q 0 0 (moC g ad th cC cT cL cP) [(0, .ref (ad 0)), (1, .int (iI x))] [] 0
  have hlen := okH_len hH
  have hl84 := mvL_len (g := G) (sp := S) (mg := M) hH
  refine j_aload_n F dX7_amountOf_0 rfl 0 rfl ?_
  refine j_iload_n F dX7_amountOf_1 rfl 1 rfl ?_
  refine j_callV_I F (As := [.int (iI x)]) (wr := []) (st := []) (c_X7_asksMove_t hfl D g z ad th cC cT cL cP H G S M Nn c3 x hT hH hG hS hM hN hst hx hi) (idx := 145) (C := RX7) gX7_amountOf_X7_asksMove rfl rfl [0, 1, 2, 3, 4, 5, 6, 7, 8, 9, 10, 11, 12, 13, 14] [] rfl rfl (by decide) (by decide) (by decide) (ci := 7) (q0 := 0) rfl rfl (by decide) (by decide) (le_ble rfl) ⟨by decide, by decide⟩ dX7_amountOf_2 ?_
  rintro r9 u9 ⟨⟨e9, q9, h7, h6, h5, h4⟩, h9⟩
  subst h9
  refine J.wsEq (ws2 := moC g ad 1 cC (u9.1.1, u9.1.2.1, u9.1.2.2.1, u9.1.2.2.2.1, u9.1.2.2.2.2.1, u9.1.2.2.2.2.2.1, u9.1.2.2.2.2.2.2.1, u9.1.2.2.2.2.2.2.2) (u9.2.1, ((H.length : Nat) : Int), u9.2.2.1, u9.2.2.2.1, u9.2.2.2.2.1, (((mvL G S M H).length : Nat) : Int), u9.2.2.2.2.2.1, ((H.length : Nat) : Int)) cP) rfl ?_
  refine j_if_eq F (tgt := 17) dX7_amountOf_5 (by decide) (by unfold rg; omega) (fun c5 => ?_) (fun h9 => by exfalso; omega)
  refine j_iconst F dX7_amountOf_17 ?_
  exact ret _ u9 0 0 _ _ dX7_amountOf_18 (by decide) (by decide) h7

set_option maxHeartbeats 1000000 in
set_option maxRecDepth 100000 in
theorem c_X7_isPositionWon {l : Launch} (hfl : l.flags = flags0) (D : va_G) (g : GT) (z : ZT) (ad : Nat → Nat) (th : Int) (cC : CT) (cT : TT) (cL : LT) (cP : PT) (H : List Nat) (G S M Nn : Nat) (c3 : C3) (po : Nat) (Qs : List Nat) (hQ : okH Qs) (hp : po < 272) (ep9 : posT.getD po [] = sortL Qs) (hT2 : tabR G S M cT 272) (hG : 1 ≤ G ∧ G ≤ 5) (hS : S ≤ 1) (hM : M ≤ 1) (hN : Nn ≤ 1) (hst : stM cC.1 H G S M Nn c3) : CI l yX7_isPositionWon wsX7_isPositionWon 1 21 1 D g z [.ref (ad 0), .int (iI (po : Int))] (moC g ad th cC cT cL cP) (fun (r9 : Int32) (u9 : Unit) => r9 = iI ((wonV (val G S M Qs) Nn : Nat) : Int)) (fun (u9 : Unit) => moC g ad th cC cT cL cP) 0 0 := by
  refine CI_of hfl (own := RX7) ⟨0, 0, 0, 0⟩ 1 21 1 (by decide +kernel) rfl rfl ⟨by decide, by decide, by decide +kernel⟩ ⟨by decide, by decide⟩ (le_ble rfl) (fun _ _ h => nar_01 h (by have := wonV_01 (val_b (g := G) (sp := S) (mg := M) hQ).2.1 Nn; omega)) ?_
  intro p e s m below meth c A Q F ret
  change J p l e _ s m _ below meth c A D _ Q 0 0 (moC g ad th cC cT cL cP) [(0, .ref (ad 0)), (1, .int (iI (po : Int)))] [] 0
  obtain ⟨t1, t2, t3, t4⟩ := tab_p hT2 hp ep9
  have hvb := val_b (g := G) (sp := S) (mg := M) hQ
  have hw01 := wonV_01 hvb.2.1 Nn
  refine j_aload_n F dX7_isPositionWon_0 rfl 0 rfl ?_
  refine j_getf F (ref := "CairnGameModel") (C := RX7) (T := TX7) (N := 27) (ci := 7) (index := 7) (v := .ref (ad 1)) (fun w h => (List.mem_cons_of_mem _ (List.mem_append_right _ h))) 0 rfl rfl 1 (by decide) (List.mem_cons_of_mem _ (List.mem_append_left _ (List.mem_of_getElem? (i := 0) rfl))) rfl rfl dX7_isPositionWon_1 ?_
  refine j_iconst F dX7_isPositionWon_4 ?_
  refine j_iald F 1 (n := 20) (f := cC.1) rfl 3 (by decide) (by decide) (by decide) dX7_isPositionWon_5 ?_
  refine J.top (congrArg iI (show cC.1 3 = (Nn : Int) from hst.2.2.2.1)) ?_
  refine j_iconst F dX7_isPositionWon_6 ?_
  refine j_icmp_ne F (tgt := 27) dX7_isPositionWon_7 (by decide) ⟨(by unfold rg; omega), (by unfold rg; omega)⟩ (fun c7 => ?_) (fun c7 => ?_)
  · refine j_aload_n F dX7_isPositionWon_27 rfl 0 rfl ?_
    refine j_getf F (ref := "CairnGameModel") (C := RX7) (T := TX7) (N := 27) (ci := 7) (index := 28) (v := .ref (ad 10)) (fun w h => (List.mem_cons_of_mem _ (List.mem_append_right _ h))) 0 rfl rfl 10 (by decide) (List.mem_cons_of_mem _ (List.mem_append_left _ (List.mem_of_getElem? (i := 2) rfl))) rfl rfl dX7_isPositionWon_28 ?_
    refine j_iload_n F dX7_isPositionWon_31 rfl 1 rfl ?_
    refine j_iald F 7 (n := 272) (f := cT.2.2.2.2.1) rfl po (rfl) (by omega) (by decide) dX7_isPositionWon_32 ?_
    refine J.top (congrArg iI (show cT.2.2.2.2.1 po = (((val G S M Qs).2.1 : Nat) : Int) from t2)) ?_
    refine j_iconst F dX7_isPositionWon_33 ?_
    refine j_icmp_ne F (tgt := 41) dX7_isPositionWon_34 (by decide) ⟨(by unfold rg; omega), (by unfold rg; omega)⟩ (fun c34 => ?_) (fun c34 => ?_)
    · refine j_iconst F dX7_isPositionWon_41 ?_
      exact ret _ () 0 0 _ _ dX7_isPositionWon_42 (by decide) (by decide) (congrArg iI (by unfold wonV; first | rw [if_pos (by omega)]; omega | rw [if_neg (by omega), if_pos (by omega)]; rfl | rw [if_neg (by omega), if_neg (by omega)]; rfl))
    · refine j_iconst F dX7_isPositionWon_37 ?_
      refine j_goto F (tgt := 42) dX7_isPositionWon_38 (by decide) ?_
      exact ret _ () 0 0 _ _ dX7_isPositionWon_42 (by decide) (by decide) (congrArg iI (by unfold wonV; first | rw [if_pos (by omega)]; omega | rw [if_neg (by omega), if_pos (by omega)]; rfl | rw [if_neg (by omega), if_neg (by omega)]; rfl))
  · refine j_aload_n F dX7_isPositionWon_10 rfl 0 rfl ?_
    refine j_getf F (ref := "CairnGameModel") (C := RX7) (T := TX7) (N := 27) (ci := 7) (index := 25) (v := .ref (ad 9)) (fun w h => (List.mem_cons_of_mem _ (List.mem_append_right _ h))) 0 rfl rfl 9 (by decide) (List.mem_cons_of_mem _ (List.mem_append_left _ (List.mem_of_getElem? (i := 1) rfl))) rfl rfl dX7_isPositionWon_11 ?_
    refine j_iload_n F dX7_isPositionWon_14 rfl 1 rfl ?_
    refine j_iald F 6 (n := 272) (f := cT.2.2.2.1) rfl po (rfl) (by omega) (by decide) dX7_isPositionWon_15 ?_
    refine J.top (congrArg iI (show cT.2.2.2.1 po = (((val G S M Qs).1 : Nat) : Int) from t1)) ?_
    refine j_if_eq F (tgt := 23) dX7_isPositionWon_16 (by decide) (by unfold rg; omega) (fun c16 => ?_) (fun c16 => ?_)
    · refine j_iconst F dX7_isPositionWon_23 ?_
      refine j_goto F (tgt := 42) dX7_isPositionWon_24 (by decide) ?_
      exact ret _ () 0 0 _ _ dX7_isPositionWon_42 (by decide) (by decide) (congrArg iI (by unfold wonV; first | rw [if_pos (by omega)]; omega | rw [if_neg (by omega), if_pos (by omega)]; rfl | rw [if_neg (by omega), if_neg (by omega)]; rfl))
    · refine j_iconst F dX7_isPositionWon_19 ?_
      refine j_goto F (tgt := 42) dX7_isPositionWon_20 (by decide) ?_
      exact ret _ () 0 0 _ _ dX7_isPositionWon_42 (by decide) (by decide) (congrArg iI (by unfold wonV; first | rw [if_pos (by omega)]; omega | rw [if_neg (by omega), if_pos (by omega)]; rfl | rw [if_neg (by omega), if_neg (by omega)]; rfl))

set_option maxHeartbeats 1000000 in
set_option maxRecDepth 100000 in
theorem c_X7_numberNow {l : Launch} (hfl : l.flags = flags0) (D : va_G) (g : GT) (z : ZT) (ad : Nat → Nat) (th : Int) (cC : CT) (cT : TT) (cL : LT) (cP : PT) (H : List Nat) (G S M Nn : Nat) (c3 : C3) (hT : tabS cT) (hH : okH H) (hG : 1 ≤ G ∧ G ≤ 5) (hS : S ≤ 1) (hM : M ≤ 1) (hN : Nn ≤ 1) (hst : stM cC.1 H G S M Nn c3) : CI l yX7_numberNow wsX7_numberNow 7 159 0 D g z [.ref (ad 0)] (moC g ad th cC cT cL cP) (fun (r9 : Int32) (u9 : TT × NF × NF × NF × NF × NF × Nat) => tabT G S M u9.1 ∧ r9 = iI (((val G S M H).1 : Nat) : Int)) (fun (u9 : TT × NF × NF × NF × NF × NF × Nat) => moC g ad th cC (u9.1.1, u9.1.2.1, u9.1.2.2.1, u9.1.2.2.2.1, u9.1.2.2.2.2.1, u9.1.2.2.2.2.2.1, u9.1.2.2.2.2.2.2.1, u9.1.2.2.2.2.2.2.2) (u9.2.1, ((H.length : Nat) : Int), u9.2.2.1, u9.2.2.2.1, u9.2.2.2.2.1, (((mvL G S M H).length : Nat) : Int), u9.2.2.2.2.2.1, ((H.length : Nat) : Int)) cP) 0 0 := by
  refine CI_of hfl (own := RX7) ⟨6, 0, 0, 139⟩ 7 159 0 (by decide +kernel) rfl rfl ⟨by decide, by decide, by decide +kernel⟩ ⟨by decide, by decide⟩ (le_ble rfl) (fun _ _ _ => rfl) ?_
  intro p e s m below meth c A Q F ret
  change J p l e _ s m _ below meth c A D _ Q 0 0 (moC g ad th cC cT cL cP) [(0, .ref (ad 0))] [] 0
  have hlen := okH_len hH
  refine j_aload_n F dX7_numberNow_0 rfl 0 rfl ?_
  refine j_getf F (ref := "CairnGameModel") (C := RX7) (T := TX7) (N := 27) (ci := 7) (index := 25) (v := .ref (ad 9)) (fun w h => (List.mem_cons_of_mem _ (List.mem_append_right _ h))) 0 rfl rfl 9 (by decide) (List.mem_cons_of_mem _ (List.mem_append_left _ (List.mem_append_left _ (List.mem_of_getElem? (l := wsX7_numberNow_r1) (i := 0) rfl)))) rfl rfl dX7_numberNow_1 ?_
  refine j_aload_n F dX7_numberNow_4 rfl 0 rfl ?_
  refine j_callV_I F (As := []) (wr := []) (st := [.ref (ad 9)]) (c_X7_looks hfl D g z ad th cC cT cL cP H G S M Nn c3 hT hH hG hS hM hN hst) (idx := 129) (C := RX7) gX7_numberNow_X7_looks rfl rfl [0, 1, 2, 3, 4, 5, 6, 7, 8, 9, 10, 11, 12, 13, 14] [] rfl rfl (by decide) (by decide) (by decide) (ci := 7) (q0 := 0) rfl rfl (by decide) (by decide) (le_ble rfl) ⟨by decide, by decide⟩ dX7_numberNow_5 ?_
  rintro r9 u9 ⟨h9, q9, e9, h7, h6, h5, h4⟩
  subst h9
  obtain ⟨t1, t2, t3, t4⟩ := tab_p h7.2.2 q9 e9
  refine J.wsEq (ws2 := moC g ad th cC (u9.1.1, u9.1.2.1, u9.1.2.2.1, u9.1.2.2.2.1, u9.1.2.2.2.2.1, u9.1.2.2.2.2.2.1, u9.1.2.2.2.2.2.2.1, u9.1.2.2.2.2.2.2.2) (u9.2.1, ((H.length : Nat) : Int), u9.2.2.1, u9.2.2.2.1, u9.2.2.2.2.1, (((mvL G S M H).length : Nat) : Int), u9.2.2.2.2.2.1, ((H.length : Nat) : Int)) cP) rfl ?_
  refine j_iald F 6 (n := 272) (f := u9.1.2.2.2.1) rfl u9.2.2.2.2.2.2 (by omega) (by omega) (by decide) dX7_numberNow_8 ?_
  refine J.top (congrArg iI (show u9.1.2.2.2.1 u9.2.2.2.2.2.2 = (((val G S M H).1 : Nat) : Int) from t1)) ?_
  exact ret _ u9 0 0 _ _ dX7_numberNow_9 (by decide) (by decide) (⟨h7, rfl⟩)

set_option maxHeartbeats 1000000 in
set_option maxRecDepth 100000 in
theorem c_X7_longestGame {l : Launch} (hfl : l.flags = flags0) (D : va_G) (g : GT) (z : ZT) (ad : Nat → Nat) (th : Int) (cC : CT) (cT : TT) (cL : LT) (cP : PT) (H : List Nat) (G S M Nn : Nat) (c3 : C3) (hT : tabS cT) (hH : okH H) (hG : 1 ≤ G ∧ G ≤ 5) (hS : S ≤ 1) (hM : M ≤ 1) (hN : Nn ≤ 1) (hst : stM cC.1 H G S M Nn c3) : CI l yX7_longestGame wsX7_longestGame 7 159 0 D g z [.ref (ad 0)] (moC g ad th cC cT cL cP) (fun (r9 : Int32) (u9 : TT × NF × NF × NF × NF × NF × Nat) => tabT G S M u9.1 ∧ r9 = iI (((val G S M H).2.2.1 : Nat) : Int)) (fun (u9 : TT × NF × NF × NF × NF × NF × Nat) => moC g ad 0 cC (u9.1.1, u9.1.2.1, u9.1.2.2.1, u9.1.2.2.2.1, u9.1.2.2.2.2.1, u9.1.2.2.2.2.2.1, u9.1.2.2.2.2.2.2.1, u9.1.2.2.2.2.2.2.2) (u9.2.1, ((H.length : Nat) : Int), u9.2.2.1, u9.2.2.2.1, u9.2.2.2.2.1, (((mvL G S M H).length : Nat) : Int), u9.2.2.2.2.2.1, ((H.length : Nat) : Int)) cP) 0 0 := by
  refine CI_of hfl (own := RX7) ⟨6, 0, 0, 139⟩ 7 159 0 (by decide +kernel) rfl rfl ⟨by decide, by decide, by decide +kernel⟩ ⟨by decide, by decide⟩ (le_ble rfl) (fun _ _ _ => rfl) ?_
  intro p e s m below meth c A Q F ret
  change J p l e _ s m _ below meth c A D _ Q 0 0 (moC g ad th cC cT cL cP) [(0, .ref (ad 0))] [] 0
  have hlen := okH_len hH
  refine j_aload_n F dX7_longestGame_0 rfl 0 rfl ?_
  refine j_aload_n F dX7_longestGame_1 rfl 0 rfl ?_
  refine j_getf F (ref := "CairnGameModel") (C := RX7) (T := TX7) (N := 27) (ci := 7) (index := 31) (v := .ref (ad 11)) (fun w h => (List.mem_cons_of_mem _ (List.mem_append_right _ h))) 0 rfl rfl 11 (by decide) (List.mem_cons_of_mem _ (List.mem_append_left _ (List.mem_append_left _ (List.mem_of_getElem? (l := wsX7_longestGame_r1) (i := 0) rfl)))) rfl rfl dX7_longestGame_2 ?_
  refine j_aload_n F dX7_longestGame_5 rfl 0 rfl ?_
  refine j_callV_I F (As := []) (wr := []) (st := [.ref (ad 11), .ref (ad 0)]) (c_X7_looks hfl D g z ad th cC cT cL cP H G S M Nn c3 hT hH hG hS hM hN hst) (idx := 129) (C := RX7) gX7_longestGame_X7_looks rfl rfl [0, 1, 2, 3, 4, 5, 6, 7, 8, 9, 10, 11, 12, 13, 14] [] rfl rfl (by decide) (by decide) (by decide) (ci := 7) (q0 := 0) rfl rfl (by decide) (by decide) (le_ble rfl) ⟨by decide, by decide⟩ dX7_longestGame_6 ?_
  rintro r9 u9 ⟨h9, q9, e9, h7, h6, h5, h4⟩
  subst h9
  obtain ⟨t1, t2, t3, t4⟩ := tab_p h7.2.2 q9 e9
  refine J.wsEq (ws2 := moC g ad th cC (u9.1.1, u9.1.2.1, u9.1.2.2.1, u9.1.2.2.2.1, u9.1.2.2.2.2.1, u9.1.2.2.2.2.2.1, u9.1.2.2.2.2.2.2.1, u9.1.2.2.2.2.2.2.2) (u9.2.1, ((H.length : Nat) : Int), u9.2.2.1, u9.2.2.2.1, u9.2.2.2.2.1, (((mvL G S M H).length : Nat) : Int), u9.2.2.2.2.2.1, ((H.length : Nat) : Int)) cP) rfl ?_
  refine j_iald F 8 (n := 272) (f := u9.1.2.2.2.2.2.1) rfl u9.2.2.2.2.2.2 (by omega) (by omega) (by decide) dX7_longestGame_9 ?_
  refine J.top (congrArg iI (show u9.1.2.2.2.2.2.1 u9.2.2.2.2.2.2 = (((val G S M H).2.2.1 : Nat) : Int) from t3)) ?_
  refine j_callV_I F (As := [.int (iI (((val G S M H).2.2.1 : Nat) : Int))]) (wr := []) (st := []) (c_X7_tells hfl D g z ad th cC u9.1 (u9.2.1, ((H.length : Nat) : Int), u9.2.2.1, u9.2.2.2.1, u9.2.2.2.2.1, (((mvL G S M H).length : Nat) : Int), u9.2.2.2.2.2.1, ((H.length : Nat) : Int)) cP (((val G S M H).2.2.1 : Nat) : Int)) (idx := 148) (C := RX7) gX7_longestGame_X7_tells rfl rfl [0, 1, 2, 3, 4, 5, 6, 7, 8, 9, 10, 11, 12, 13, 14] [] rfl rfl (by decide) (by decide) (by decide) (ci := 7) (q0 := 0) rfl rfl (by decide) (by decide) (le_ble rfl) ⟨by decide, by decide⟩ dX7_longestGame_10 ?_
  rintro r2 u2 h2
  subst h2
  refine J.wsEq (ws2 := moC g ad 0 cC (u9.1.1, u9.1.2.1, u9.1.2.2.1, u9.1.2.2.2.1, u9.1.2.2.2.2.1, u9.1.2.2.2.2.2.1, u9.1.2.2.2.2.2.2.1, u9.1.2.2.2.2.2.2.2) (u9.2.1, ((H.length : Nat) : Int), u9.2.2.1, u9.2.2.2.1, u9.2.2.2.2.1, (((mvL G S M H).length : Nat) : Int), u9.2.2.2.2.2.1, ((H.length : Nat) : Int)) cP) rfl ?_
  exact ret _ u9 0 0 _ _ dX7_longestGame_13 (by decide) (by decide) (⟨h7, rfl⟩)

set_option maxHeartbeats 1000000 in
set_option maxRecDepth 100000 in
theorem c_X7_shortestGame {l : Launch} (hfl : l.flags = flags0) (D : va_G) (g : GT) (z : ZT) (ad : Nat → Nat) (th : Int) (cC : CT) (cT : TT) (cL : LT) (cP : PT) (H : List Nat) (G S M Nn : Nat) (c3 : C3) (hT : tabS cT) (hH : okH H) (hG : 1 ≤ G ∧ G ≤ 5) (hS : S ≤ 1) (hM : M ≤ 1) (hN : Nn ≤ 1) (hst : stM cC.1 H G S M Nn c3) : CI l yX7_shortestGame wsX7_shortestGame 7 159 0 D g z [.ref (ad 0)] (moC g ad th cC cT cL cP) (fun (r9 : Int32) (u9 : TT × NF × NF × NF × NF × NF × Nat) => tabT G S M u9.1 ∧ r9 = iI (((val G S M H).2.2.2 : Nat) : Int)) (fun (u9 : TT × NF × NF × NF × NF × NF × Nat) => moC g ad 0 cC (u9.1.1, u9.1.2.1, u9.1.2.2.1, u9.1.2.2.2.1, u9.1.2.2.2.2.1, u9.1.2.2.2.2.2.1, u9.1.2.2.2.2.2.2.1, u9.1.2.2.2.2.2.2.2) (u9.2.1, ((H.length : Nat) : Int), u9.2.2.1, u9.2.2.2.1, u9.2.2.2.2.1, (((mvL G S M H).length : Nat) : Int), u9.2.2.2.2.2.1, ((H.length : Nat) : Int)) cP) 0 0 := by
  refine CI_of hfl (own := RX7) ⟨6, 0, 0, 139⟩ 7 159 0 (by decide +kernel) rfl rfl ⟨by decide, by decide, by decide +kernel⟩ ⟨by decide, by decide⟩ (le_ble rfl) (fun _ _ _ => rfl) ?_
  intro p e s m below meth c A Q F ret
  change J p l e _ s m _ below meth c A D _ Q 0 0 (moC g ad th cC cT cL cP) [(0, .ref (ad 0))] [] 0
  have hlen := okH_len hH
  refine j_aload_n F dX7_shortestGame_0 rfl 0 rfl ?_
  refine j_aload_n F dX7_shortestGame_1 rfl 0 rfl ?_
  refine j_getf F (ref := "CairnGameModel") (C := RX7) (T := TX7) (N := 27) (ci := 7) (index := 34) (v := .ref (ad 12)) (fun w h => (List.mem_cons_of_mem _ (List.mem_append_right _ h))) 0 rfl rfl 12 (by decide) (List.mem_cons_of_mem _ (List.mem_append_left _ (List.mem_append_left _ (List.mem_of_getElem? (l := wsX7_shortestGame_r1) (i := 0) rfl)))) rfl rfl dX7_shortestGame_2 ?_
  refine j_aload_n F dX7_shortestGame_5 rfl 0 rfl ?_
  refine j_callV_I F (As := []) (wr := []) (st := [.ref (ad 12), .ref (ad 0)]) (c_X7_looks hfl D g z ad th cC cT cL cP H G S M Nn c3 hT hH hG hS hM hN hst) (idx := 129) (C := RX7) gX7_shortestGame_X7_looks rfl rfl [0, 1, 2, 3, 4, 5, 6, 7, 8, 9, 10, 11, 12, 13, 14] [] rfl rfl (by decide) (by decide) (by decide) (ci := 7) (q0 := 0) rfl rfl (by decide) (by decide) (le_ble rfl) ⟨by decide, by decide⟩ dX7_shortestGame_6 ?_
  rintro r9 u9 ⟨h9, q9, e9, h7, h6, h5, h4⟩
  subst h9
  obtain ⟨t1, t2, t3, t4⟩ := tab_p h7.2.2 q9 e9
  refine J.wsEq (ws2 := moC g ad th cC (u9.1.1, u9.1.2.1, u9.1.2.2.1, u9.1.2.2.2.1, u9.1.2.2.2.2.1, u9.1.2.2.2.2.2.1, u9.1.2.2.2.2.2.2.1, u9.1.2.2.2.2.2.2.2) (u9.2.1, ((H.length : Nat) : Int), u9.2.2.1, u9.2.2.2.1, u9.2.2.2.2.1, (((mvL G S M H).length : Nat) : Int), u9.2.2.2.2.2.1, ((H.length : Nat) : Int)) cP) rfl ?_
  refine j_iald F 9 (n := 272) (f := u9.1.2.2.2.2.2.2.1) rfl u9.2.2.2.2.2.2 (by omega) (by omega) (by decide) dX7_shortestGame_9 ?_
  refine J.top (congrArg iI (show u9.1.2.2.2.2.2.2.1 u9.2.2.2.2.2.2 = (((val G S M H).2.2.2 : Nat) : Int) from t4)) ?_
  refine j_callV_I F (As := [.int (iI (((val G S M H).2.2.2 : Nat) : Int))]) (wr := []) (st := []) (c_X7_tells hfl D g z ad th cC u9.1 (u9.2.1, ((H.length : Nat) : Int), u9.2.2.1, u9.2.2.2.1, u9.2.2.2.2.1, (((mvL G S M H).length : Nat) : Int), u9.2.2.2.2.2.1, ((H.length : Nat) : Int)) cP (((val G S M H).2.2.2 : Nat) : Int)) (idx := 148) (C := RX7) gX7_shortestGame_X7_tells rfl rfl [0, 1, 2, 3, 4, 5, 6, 7, 8, 9, 10, 11, 12, 13, 14] [] rfl rfl (by decide) (by decide) (by decide) (ci := 7) (q0 := 0) rfl rfl (by decide) (by decide) (le_ble rfl) ⟨by decide, by decide⟩ dX7_shortestGame_10 ?_
  rintro r2 u2 h2
  subst h2
  refine J.wsEq (ws2 := moC g ad 0 cC (u9.1.1, u9.1.2.1, u9.1.2.2.1, u9.1.2.2.2.1, u9.1.2.2.2.2.1, u9.1.2.2.2.2.2.1, u9.1.2.2.2.2.2.2.1, u9.1.2.2.2.2.2.2.2) (u9.2.1, ((H.length : Nat) : Int), u9.2.2.1, u9.2.2.2.1, u9.2.2.2.2.1, (((mvL G S M H).length : Nat) : Int), u9.2.2.2.2.2.1, ((H.length : Nat) : Int)) cP) rfl ?_
  exact ret _ u9 0 0 _ _ dX7_shortestGame_13 (by decide) (by decide) (⟨h7, rfl⟩)

set_option maxHeartbeats 1000000 in
set_option maxRecDepth 100000 in
theorem c_X7_number {l : Launch} (hfl : l.flags = flags0) (D : va_G) (g : GT) (z : ZT) (ad : Nat → Nat) (th : Int) (cC : CT) (cT : TT) (cL : LT) (cP : PT) (H : List Nat) (G S M Nn : Nat) (c3 : C3) (hT : tabS cT) (hH : okH H) (hG : 1 ≤ G ∧ G ≤ 5) (hS : S ≤ 1) (hM : M ≤ 1) (hN : Nn ≤ 1) (hst : stM cC.1 H G S M Nn c3) : CI l yX7_number wsX7_number 8 179 0 D g z [.ref (ad 0)] (moC g ad th cC cT cL cP) (fun (r9 : Int32) (u9 : TT × NF × NF × NF × NF × NF × Nat) => tabT G S M u9.1 ∧ r9 = iI (((val G S M H).1 : Nat) : Int)) (fun (u9 : TT × NF × NF × NF × NF × NF × Nat) => moC g ad 0 cC (u9.1.1, u9.1.2.1, u9.1.2.2.1, u9.1.2.2.2.1, u9.1.2.2.2.2.1, u9.1.2.2.2.2.2.1, u9.1.2.2.2.2.2.2.1, u9.1.2.2.2.2.2.2.2) (u9.2.1, ((H.length : Nat) : Int), u9.2.2.1, u9.2.2.2.1, u9.2.2.2.2.1, (((mvL G S M H).length : Nat) : Int), u9.2.2.2.2.2.1, ((H.length : Nat) : Int)) cP) 0 0 := by
  refine CI_of hfl (own := RX7) ⟨7, 0, 0, 159⟩ 8 179 0 (by decide +kernel) rfl rfl ⟨by decide, by decide, by decide +kernel⟩ ⟨by decide, by decide⟩ (le_ble rfl) (fun _ _ _ => rfl) ?_
  intro p e s m below meth c A Q F ret
  change J p l e _ s m _ below meth c A D _ Q 0 0 (moC g ad th cC cT cL cP) [(0, .ref (ad 0))] [] 0
  have hlen := okH_len hH
  refine j_aload_n F dX7_number_0 rfl 0 rfl ?_
  refine j_aload_n F dX7_number_1 rfl 0 rfl ?_
  refine j_callV_I F (As := []) (wr := []) (st := [.ref (ad 0)]) (c_X7_numberNow hfl D g z ad th cC cT cL cP H G S M Nn c3 hT hH hG hS hM hN hst) (idx := 157) (C := RX7) gX7_number_X7_numberNow rfl rfl [0, 1, 2, 3, 4, 5, 6, 7, 8, 9, 10, 11, 12, 13, 14] [] rfl rfl (by decide) (by decide) (by decide) (ci := 7) (q0 := 0) rfl rfl (by decide) (by decide) (le_ble rfl) ⟨by decide, by decide⟩ dX7_number_2 ?_
  rintro r9 u9 ⟨h7, h9⟩
  subst h9
  refine J.wsEq (ws2 := moC g ad th cC (u9.1.1, u9.1.2.1, u9.1.2.2.1, u9.1.2.2.2.1, u9.1.2.2.2.2.1, u9.1.2.2.2.2.2.1, u9.1.2.2.2.2.2.2.1, u9.1.2.2.2.2.2.2.2) (u9.2.1, ((H.length : Nat) : Int), u9.2.2.1, u9.2.2.2.1, u9.2.2.2.2.1, (((mvL G S M H).length : Nat) : Int), u9.2.2.2.2.2.1, ((H.length : Nat) : Int)) cP) rfl ?_
  refine j_callV_I F (As := [.int (iI (((val G S M H).1 : Nat) : Int))]) (wr := []) (st := []) (c_X7_tells hfl D g z ad th cC u9.1 (u9.2.1, ((H.length : Nat) : Int), u9.2.2.1, u9.2.2.2.1, u9.2.2.2.2.1, (((mvL G S M H).length : Nat) : Int), u9.2.2.2.2.2.1, ((H.length : Nat) : Int)) cP (((val G S M H).1 : Nat) : Int)) (idx := 148) (C := RX7) gX7_number_X7_tells rfl rfl [0, 1, 2, 3, 4, 5, 6, 7, 8, 9, 10, 11, 12, 13, 14] [] rfl rfl (by decide) (by decide) (by decide) (ci := 7) (q0 := 0) rfl rfl (by decide) (by decide) (le_ble rfl) ⟨by decide, by decide⟩ dX7_number_5 ?_
  rintro r2 u2 h2
  subst h2
  refine J.wsEq (ws2 := moC g ad 0 cC (u9.1.1, u9.1.2.1, u9.1.2.2.1, u9.1.2.2.2.1, u9.1.2.2.2.2.1, u9.1.2.2.2.2.2.1, u9.1.2.2.2.2.2.2.1, u9.1.2.2.2.2.2.2.2) (u9.2.1, ((H.length : Nat) : Int), u9.2.2.1, u9.2.2.2.1, u9.2.2.2.2.1, (((mvL G S M H).length : Nat) : Int), u9.2.2.2.2.2.1, ((H.length : Nat) : Int)) cP) rfl ?_
  exact ret _ u9 0 0 _ _ dX7_number_8 (by decide) (by decide) (⟨h7, rfl⟩)

set_option maxHeartbeats 1000000 in
set_option maxRecDepth 100000 in
theorem c_X7_isWonNow {l : Launch} (hfl : l.flags = flags0) (D : va_G) (g : GT) (z : ZT) (ad : Nat → Nat) (th : Int) (cC : CT) (cT : TT) (cL : LT) (cP : PT) (H : List Nat) (G S M Nn : Nat) (c3 : C3) (hT : tabS cT) (hH : okH H) (hG : 1 ≤ G ∧ G ≤ 5) (hS : S ≤ 1) (hM : M ≤ 1) (hN : Nn ≤ 1) (hst : stM cC.1 H G S M Nn c3) : CI l yX7_isWonNow wsX7_isWonNow 7 159 0 D g z [.ref (ad 0)] (moC g ad th cC cT cL cP) (fun (r9 : Int32) (u9 : TT × NF × NF × NF × NF × NF × Nat) => tabT G S M u9.1 ∧ r9 = iI ((wonV (val G S M H) Nn : Nat) : Int)) (fun (u9 : TT × NF × NF × NF × NF × NF × Nat) => moC g ad th cC (u9.1.1, u9.1.2.1, u9.1.2.2.1, u9.1.2.2.2.1, u9.1.2.2.2.2.1, u9.1.2.2.2.2.2.1, u9.1.2.2.2.2.2.2.1, u9.1.2.2.2.2.2.2.2) (u9.2.1, ((H.length : Nat) : Int), u9.2.2.1, u9.2.2.2.1, u9.2.2.2.2.1, (((mvL G S M H).length : Nat) : Int), u9.2.2.2.2.2.1, ((H.length : Nat) : Int)) cP) 0 0 := by
  refine CI_of hfl (own := RX7) ⟨6, 0, 0, 139⟩ 7 159 0 (by decide +kernel) rfl rfl ⟨by decide, by decide, by decide +kernel⟩ ⟨by decide, by decide⟩ (le_ble rfl) (fun _ _ h => nar_01 h.2 (by have := wonV_01 (val_b (g := G) (sp := S) (mg := M) hH).2.1 Nn; omega)) ?_
  intro p e s m below meth c A Q F ret
  change J p l e _ s m _ below meth c A D _ Q 0 0 (moC g ad th cC cT cL cP) [(0, .ref (ad 0))] [] 0
  have hlen := okH_len hH
  refine j_aload_n F dX7_isWonNow_0 rfl 0 rfl ?_
  refine j_aload_n F dX7_isWonNow_1 rfl 0 rfl ?_
  refine j_callV_I F (As := []) (wr := []) (st := [.ref (ad 0)]) (c_X7_looks hfl D g z ad th cC cT cL cP H G S M Nn c3 hT hH hG hS hM hN hst) (idx := 129) (C := RX7) gX7_isWonNow_X7_looks rfl rfl [0, 1, 2, 3, 4, 5, 6, 7, 8, 9, 10, 11, 12, 13, 14] [] rfl rfl (by decide) (by decide) (by decide) (ci := 7) (q0 := 0) rfl rfl (by decide) (by decide) (le_ble rfl) ⟨by decide, by decide⟩ dX7_isWonNow_2 ?_
  rintro r9 u9 ⟨h9, q9, e9, h7, h6, h5, h4⟩
  subst h9
  refine J.wsEq (ws2 := moC g ad th cC (u9.1.1, u9.1.2.1, u9.1.2.2.1, u9.1.2.2.2.1, u9.1.2.2.2.2.1, u9.1.2.2.2.2.2.1, u9.1.2.2.2.2.2.2.1, u9.1.2.2.2.2.2.2.2) (u9.2.1, ((H.length : Nat) : Int), u9.2.2.1, u9.2.2.2.1, u9.2.2.2.2.1, (((mvL G S M H).length : Nat) : Int), u9.2.2.2.2.2.1, ((H.length : Nat) : Int)) cP) rfl ?_
  refine j_callV_I F (As := [.int (iI ((u9.2.2.2.2.2.2 : Nat) : Int))]) (wr := []) (st := []) (c_X7_isPositionWon hfl D g z ad th cC u9.1 (u9.2.1, ((H.length : Nat) : Int), u9.2.2.1, u9.2.2.2.1, u9.2.2.2.2.1, (((mvL G S M H).length : Nat) : Int), u9.2.2.2.2.2.1, ((H.length : Nat) : Int)) cP H G S M Nn c3 u9.2.2.2.2.2.2 H hH q9 e9 h7.2.2 hG hS hM hN hst) (idx := 163) (C := RX7) gX7_isWonNow_X7_isPositionWon rfl rfl [0, 1, 2, 3, 4, 5, 6, 7, 8, 9, 10, 11, 12, 13, 14] [] rfl rfl (by decide) (by decide) (by decide) (ci := 7) (q0 := 0) rfl rfl (by decide) (by decide) (le_ble rfl) ⟨by decide, by decide⟩ dX7_isWonNow_5 ?_
  rintro r8 u8 h8
  subst h8
  refine J.wsEq (ws2 := moC g ad th cC (u9.1.1, u9.1.2.1, u9.1.2.2.1, u9.1.2.2.2.1, u9.1.2.2.2.2.1, u9.1.2.2.2.2.2.1, u9.1.2.2.2.2.2.2.1, u9.1.2.2.2.2.2.2.2) (u9.2.1, ((H.length : Nat) : Int), u9.2.2.1, u9.2.2.2.1, u9.2.2.2.2.1, (((mvL G S M H).length : Nat) : Int), u9.2.2.2.2.2.1, ((H.length : Nat) : Int)) cP) rfl ?_
  exact ret _ u9 0 0 _ _ dX7_isWonNow_8 (by decide) (by decide) (⟨h7, rfl⟩)

set_option maxHeartbeats 1000000 in
set_option maxRecDepth 100000 in
theorem c_X7_isWon {l : Launch} (hfl : l.flags = flags0) (D : va_G) (g : GT) (z : ZT) (ad : Nat → Nat) (th : Int) (cC : CT) (cT : TT) (cL : LT) (cP : PT) (H : List Nat) (G S M Nn : Nat) (c3 : C3) (hT : tabS cT) (hH : okH H) (hG : 1 ≤ G ∧ G ≤ 5) (hS : S ≤ 1) (hM : M ≤ 1) (hN : Nn ≤ 1) (hst : stM cC.1 H G S M Nn c3) : CI l yX7_isWon wsX7_isWon 8 179 0 D g z [.ref (ad 0)] (moC g ad th cC cT cL cP) (fun (r9 : Int32) (u9 : TT × NF × NF × NF × NF × NF × Nat) => tabT G S M u9.1 ∧ r9 = iI ((wonV (val G S M H) Nn : Nat) : Int)) (fun (u9 : TT × NF × NF × NF × NF × NF × Nat) => moC g ad 0 cC (u9.1.1, u9.1.2.1, u9.1.2.2.1, u9.1.2.2.2.1, u9.1.2.2.2.2.1, u9.1.2.2.2.2.2.1, u9.1.2.2.2.2.2.2.1, u9.1.2.2.2.2.2.2.2) (u9.2.1, ((H.length : Nat) : Int), u9.2.2.1, u9.2.2.2.1, u9.2.2.2.2.1, (((mvL G S M H).length : Nat) : Int), u9.2.2.2.2.2.1, ((H.length : Nat) : Int)) cP) 0 0 := by
  refine CI_of hfl (own := RX7) ⟨7, 0, 0, 159⟩ 8 179 0 (by decide +kernel) rfl rfl ⟨by decide, by decide, by decide +kernel⟩ ⟨by decide, by decide⟩ (le_ble rfl) (fun _ _ h => nar_01 h.2 (by have := wonV_01 (val_b (g := G) (sp := S) (mg := M) hH).2.1 Nn; omega)) ?_
  intro p e s m below meth c A Q F ret
  change J p l e _ s m _ below meth c A D _ Q 0 0 (moC g ad th cC cT cL cP) [(0, .ref (ad 0))] [] 0
  have hlen := okH_len hH
  refine j_aload_n F dX7_isWon_0 rfl 0 rfl ?_
  refine j_iconst F dX7_isWon_1 ?_
  refine j_putf F (ref := "CairnGameModel") (C := RX7) (T := TX7) (N := 27) (ci := 7) (index := 60) (ty := .int) (ws' := moC g ad 0 cC cT cL cP) (fun w h => (List.mem_cons_of_mem _ (List.mem_append_right _ h))) tyX7 tyX7_ok nmX7 0 rfl rfl 0 (by decide) (List.mem_cons_of_mem _ (List.mem_append_left _ (List.mem_append_left _ (List.mem_of_getElem? (l := wsX7_isWon_r1) (i := 0) rfl)))) rfl rfl rfl rfl rfl (lt_ble rfl) rfl dX7_isWon_2 ?_
  refine j_aload_n F dX7_isWon_5 rfl 0 rfl ?_
  refine j_callV_I F (As := []) (wr := []) (st := []) (c_X7_isWonNow hfl D g z ad 0 cC cT cL cP H G S M Nn c3 hT hH hG hS hM hN hst) (idx := 166) (C := RX7) gX7_isWon_X7_isWonNow rfl rfl [0, 1, 2, 3, 4, 5, 6, 7, 8, 9, 10, 11, 12, 13, 14] [] rfl rfl (by decide) (by decide) (by decide) (ci := 7) (q0 := 0) rfl rfl (by decide) (by decide) (le_ble rfl) ⟨by decide, by decide⟩ dX7_isWon_6 ?_
  rintro r9 u9 ⟨h7, h9⟩
  subst h9
  refine J.wsEq (ws2 := moC g ad 0 cC (u9.1.1, u9.1.2.1, u9.1.2.2.1, u9.1.2.2.2.1, u9.1.2.2.2.2.1, u9.1.2.2.2.2.2.1, u9.1.2.2.2.2.2.2.1, u9.1.2.2.2.2.2.2.2) (u9.2.1, ((H.length : Nat) : Int), u9.2.2.1, u9.2.2.2.1, u9.2.2.2.2.1, (((mvL G S M H).length : Nat) : Int), u9.2.2.2.2.2.1, ((H.length : Nat) : Int)) cP) rfl ?_
  exact ret _ u9 0 0 _ _ dX7_isWon_9 (by decide) (by decide) (⟨h7, rfl⟩)

set_option maxHeartbeats 1000000 in
set_option maxRecDepth 100000 in
theorem c_X7_byHeaps {l : Launch} (hfl : l.flags = flags0) (D : va_G) (g : GT) (z : ZT) (ad : Nat → Nat) (th : Int) (cC : CT) (cT : TT) (cL : LT) (cP : PT) (H : List Nat) (G S M Nn : Nat) (c3 : C3) (hT : tabS cT) (hH : okH H) (hG : 1 ≤ G ∧ G ≤ 5) (hS : S ≤ 1) (hM : M ≤ 1) (hN : Nn ≤ 1) (hst : stM cC.1 H G S M Nn c3) : CI l yX7_byHeaps wsX7_byHeaps 6 140 0 D g z [.ref (ad 0)] (moC g ad th cC cT cL cP) (fun (r9 : Int32) (u9 : TT × LT) => tabT G S M u9.1 ∧ r9 = iI (((xrF G S M H H.length) : Nat) : Int)) (fun (u9 : TT × LT) => moC g ad th cC (u9.1.1, u9.1.2.1, u9.1.2.2.1, u9.1.2.2.2.1, u9.1.2.2.2.2.1, u9.1.2.2.2.2.2.1, u9.1.2.2.2.2.2.2.1, u9.1.2.2.2.2.2.2.2) (u9.2.1, u9.2.2.1, u9.2.2.2.1, u9.2.2.2.2.1, u9.2.2.2.2.2.1, u9.2.2.2.2.2.2.1, u9.2.2.2.2.2.2.2.1, u9.2.2.2.2.2.2.2.2) cP) 0 0 := by
  refine CI_of hfl (own := RX7) ⟨5, 0, 0, 118⟩ 6 140 0 (by decide +kernel) rfl rfl ⟨by decide, by decide, by decide +kernel⟩ ⟨by decide, by decide⟩ (le_ble rfl) (fun _ _ _ => rfl) ?_
  intro p e s m below meth c A Q F ret
  change J p l e _ s m _ below meth c A D _ Q 0 0 (moC g ad th cC cT cL cP) [(0, .ref (ad 0))] [] 0
  have hlen := okH_len hH
  refine j_aload_n F dX7_byHeaps_0 rfl 0 rfl ?_
  refine j_callV_V F (As := []) (wr := []) (st := []) (c_X7_learns hfl D g z ad th cC cT cL cP H G S M Nn c3 hT hG hS hM hN hst) (idx := 110) (C := RX7) gX7_byHeaps_X7_learns rfl rfl [0, 1, 2, 3, 4, 5, 6, 7, 8, 9, 10, 11, 12, 13, 14] [] rfl rfl (by decide) (by decide) (by decide) (ci := 7) (q0 := 0) rfl rfl (by decide) (by decide) (le_ble rfl) ⟨by decide, by decide⟩ dX7_byHeaps_1 ?_
  rintro u9 h9
  refine J.wsEq (ws2 := moC g ad th cC (u9.1.1, u9.1.2.1, u9.1.2.2.1, u9.1.2.2.2.1, u9.1.2.2.2.2.1, u9.1.2.2.2.2.2.1, u9.1.2.2.2.2.2.2.1, u9.1.2.2.2.2.2.2.2) (u9.2.1, u9.2.2.1, u9.2.2.2.1, u9.2.2.2.2.1, u9.2.2.2.2.2.1, u9.2.2.2.2.2.2.1, u9.2.2.2.2.2.2.2.1, u9.2.2.2.2.2.2.2.2) cP) rfl ?_
  refine j_iconst F dX7_byHeaps_4 ?_
  refine j_istore_n F (lv' := [(1, .int (iI 0)), (0, .ref (ad 0))]) dX7_byHeaps_5 rfl (by decide) rfl ?_
  refine j_iconst F dX7_byHeaps_6 ?_
  refine j_istore_n F (lv' := [(2, .int (iI 0)), (1, .int (iI 0)), (0, .ref (ad 0))]) dX7_byHeaps_7 rfl (by decide) rfl ?_
  refine J.loc [0, 1, 2] rfl ?_
  refine J_loop (σ := Nat × NF × Int) (fun x9 : Nat × NF × Int => match x9 with | (k, b, n) => k ≤ H.length) (fun x9 : Nat × NF × Int => match x9 with | (k, b, n) => H.length - k) (fun x9 : Nat × NF × Int => match x9 with | (k, b, n) => moC g ad th cC (u9.1.1, u9.1.2.1, u9.1.2.2.1, u9.1.2.2.2.1, u9.1.2.2.2.2.1, u9.1.2.2.2.2.2.1, u9.1.2.2.2.2.2.2.1, u9.1.2.2.2.2.2.2.2) (u9.2.1, u9.2.2.1, u9.2.2.2.1, u9.2.2.2.2.1, u9.2.2.2.2.2.1, u9.2.2.2.2.2.2.1, b, n) cP) (fun x9 : Nat × NF × Int => match x9 with | (k, b, n) => [(2, .int (iI (k : Int))), (1, .int (iI (((xrF G S M H k) : Nat) : Int))), (0, .ref (ad 0))]) (0, u9.2.2.2.2.2.2.2.1, u9.2.2.2.2.2.2.2.2) (by show 0 ≤ H.length; exact Nat.zero_le _) ?_
  rintro ⟨k, b, n⟩ hI ih8
  have hI : k ≤ H.length := hI
  refine j_iload_n F dX7_byHeaps_8 rfl 0 rfl ?_
  refine j_aload_n F dX7_byHeaps_9 rfl 2 rfl ?_
  refine j_getf F (ref := "CairnGameModel") (C := RX7) (T := TX7) (N := 27) (ci := 7) (index := 7) (v := .ref (ad 1)) (fun w h => (List.mem_cons_of_mem _ (List.mem_append_right _ h))) 0 rfl rfl 1 (by decide) (List.mem_cons_of_mem _ (List.mem_append_left _ (List.mem_append_left _ (List.mem_of_getElem? (l := wsX7_byHeaps_r1) (i := 0) rfl)))) rfl rfl dX7_byHeaps_10 ?_
  refine j_iconst F dX7_byHeaps_13 ?_
  refine j_iald F 1 (n := 20) (f := cC.1) rfl 4 (by decide) (by decide) (by decide) dX7_byHeaps_14 ?_
  refine J.top (congrArg iI (show cC.1 4 = ((H.length : Nat) : Int) from hst.2.2.2.2.1)) ?_
  refine j_icmp_ge F (tgt := 55) dX7_byHeaps_15 (by decide) ⟨(by unfold rg; omega), (by unfold rg; omega)⟩ (fun c15 => ?_) (fun c15 => ?_)
  · have ek : k = H.length := by omega
    subst ek
    refine j_iload_n F dX7_byHeaps_55 rfl 1 rfl ?_
    exact ret _ (u9.1, (u9.2.1, u9.2.2.1, u9.2.2.2.1, u9.2.2.2.2.1, u9.2.2.2.2.2.1, u9.2.2.2.2.2.2.1, b, n)) 0 0 _ _ dX7_byHeaps_56 (by decide) (by decide) (⟨h9, rfl⟩)
  · have hk : k < H.length := by omega
    have hxk := okH_at hH hk
    have hok1 := okH_1 hxk
    have hfk := hst.2.2.2.2.2.1 k hk
    refine j_aload_n F dX7_byHeaps_18 rfl 2 rfl ?_
    refine j_iconst F dX7_byHeaps_19 ?_
    refine j_putf F (ref := "CairnGameModel") (C := RX7) (T := TX7) (N := 27) (ci := 7) (index := 70) (ty := .int) (ws' := moC g ad th cC (u9.1.1, u9.1.2.1, u9.1.2.2.1, u9.1.2.2.2.1, u9.1.2.2.2.2.1, u9.1.2.2.2.2.2.1, u9.1.2.2.2.2.2.2.1, u9.1.2.2.2.2.2.2.2) (u9.2.1, u9.2.2.1, u9.2.2.2.1, u9.2.2.2.2.1, u9.2.2.2.2.2.1, u9.2.2.2.2.2.2.1, b, 1) cP) (fun w h => (List.mem_cons_of_mem _ (List.mem_append_right _ h))) tyX7 tyX7_ok nmX7 0 rfl rfl 21 (by decide) (List.mem_cons_of_mem _ (List.mem_append_left _ (List.mem_append_left _ (List.mem_of_getElem? (l := wsX7_byHeaps_r1) (i := 1) rfl)))) rfl rfl rfl rfl rfl (lt_ble rfl) rfl dX7_byHeaps_20 ?_
    refine j_aload_n F dX7_byHeaps_23 rfl 2 rfl ?_
    refine j_getf F (ref := "CairnGameModel") (C := RX7) (T := TX7) (N := 27) (ci := 7) (index := 49) (v := .ref (ad 20)) (fun w h => (List.mem_cons_of_mem _ (List.mem_append_right _ h))) 0 rfl rfl 20 (by decide) (List.mem_cons_of_mem _ (List.mem_append_left _ (List.mem_append_left _ (List.mem_of_getElem? (l := wsX7_byHeaps_r1) (i := 2) rfl)))) rfl rfl dX7_byHeaps_24 ?_
    refine j_iconst F dX7_byHeaps_27 ?_
    refine j_aload_n F dX7_byHeaps_28 rfl 2 rfl ?_
    refine j_getf F (ref := "CairnGameModel") (C := RX7) (T := TX7) (N := 27) (ci := 7) (index := 7) (v := .ref (ad 1)) (fun w h => (List.mem_cons_of_mem _ (List.mem_append_right _ h))) 0 rfl rfl 1 (by decide) (List.mem_cons_of_mem _ (List.mem_append_left _ (List.mem_append_left _ (List.mem_of_getElem? (l := wsX7_byHeaps_r1) (i := 0) rfl)))) rfl rfl dX7_byHeaps_29 ?_
    refine j_iconst F dX7_byHeaps_32 ?_
    refine j_iload_n F dX7_byHeaps_33 rfl 0 rfl ?_
    refine j_iadd F dX7_byHeaps_34 ?_
    refine j_iald F 1 (n := 20) (f := cC.1) rfl (5 + k) (by omega) (by omega) (by decide) dX7_byHeaps_35 ?_
    refine J.top (congrArg iI (show cC.1 (5 + k) = (((H.getD k 0) : Nat) : Int) from hfk)) ?_
    refine j_iast F (ws' := moC g ad th cC (u9.1.1, u9.1.2.1, u9.1.2.2.1, u9.1.2.2.2.1, u9.1.2.2.2.2.1, u9.1.2.2.2.2.2.1, u9.1.2.2.2.2.2.2.1, u9.1.2.2.2.2.2.2.2) (u9.2.1, u9.2.2.1, u9.2.2.2.1, u9.2.2.2.2.1, u9.2.2.2.2.2.1, u9.2.2.2.2.2.2.1, nup b 0 (((H.getD k 0) : Nat) : Int), 1) cP) 14 (n := 13) (f := b) rfl 0 (by decide) (by decide) (by decide) rfl dX7_byHeaps_36 ?_
    refine j_iload_n F dX7_byHeaps_37 rfl 1 rfl ?_
    refine j_aload_n F dX7_byHeaps_38 rfl 2 rfl ?_
    refine j_getf F (ref := "CairnGameModel") (C := RX7) (T := TX7) (N := 27) (ci := 7) (index := 25) (v := .ref (ad 9)) (fun w h => (List.mem_cons_of_mem _ (List.mem_append_right _ h))) 0 rfl rfl 9 (by decide) (List.mem_cons_of_mem _ (List.mem_append_left _ (List.mem_append_left _ (List.mem_of_getElem? (l := wsX7_byHeaps_r1) (i := 3) rfl)))) rfl rfl dX7_byHeaps_39 ?_
    refine j_aload_n F dX7_byHeaps_42 rfl 2 rfl ?_
    refine j_callV_I F (As := []) (wr := []) (st := [.ref (ad 9), .int (iI (((xrF G S M H k) : Nat) : Int))]) (c_X7_position hfl D g z ad th cC u9.1 (u9.2.1, u9.2.2.1, u9.2.2.2.1, u9.2.2.2.2.1, u9.2.2.2.2.2.1, u9.2.2.2.2.2.2.1, (nup b 0 ((H.getD k 0 : Nat) : Int)), (([H.getD k 0].length : Nat) : Int)) cP [H.getD k 0] hok1 h9.1 (fun i hi => by have hi0 : i = 0 := (by simp only [List.length_cons, List.length_nil] at hi; omega); subst hi0; exact nup_s b 0 ((H.getD k 0 : Nat) : Int))) (idx := 89) (C := RX7) gX7_byHeaps_X7_position rfl rfl [0, 1, 2, 3, 4, 5, 6, 7, 8, 9, 10, 11, 12, 13, 14] [] rfl rfl (by decide) (by decide) (by decide) (ci := 7) (q0 := 0) rfl rfl (by decide) (by decide) (le_ble rfl) ⟨by decide, by decide⟩ dX7_byHeaps_43 ?_
    rintro r7 u7 ⟨h7, q7, e7, b7⟩
    subst h7
    obtain ⟨t1, t2, t3, t4⟩ := tab_p h9.2.2 q7 e7
    refine J.wsEq (ws2 := moC g ad th cC (u9.1.1, u9.1.2.1, u9.1.2.2.1, u9.1.2.2.2.1, u9.1.2.2.2.2.1, u9.1.2.2.2.2.2.1, u9.1.2.2.2.2.2.2.1, u9.1.2.2.2.2.2.2.2) (u9.2.1, u9.2.2.1, u9.2.2.2.1, u9.2.2.2.2.1, u9.2.2.2.2.2.1, u9.2.2.2.2.2.2.1, u7.1, 1) cP) rfl ?_
    refine j_iald F 6 (n := 272) (f := u9.1.2.2.2.1) rfl u7.2 (by omega) (by omega) (by decide) dX7_byHeaps_46 ?_
    refine J.top (congrArg iI (show u9.1.2.2.2.1 u7.2 = (((val G S M [H.getD k 0]).1 : Nat) : Int) from t1)) ?_
    refine j_ixor F (v := (iI (((xrF G S M H (k + 1)) : Nat) : Int))) (iI_xor _ _) dX7_byHeaps_47 ?_
    refine j_istore_n F (lv' := [(1, .int (iI (((xrF G S M H (k + 1)) : Nat) : Int))), (2, .int (iI (k : Int))), (0, .ref (ad 0))]) dX7_byHeaps_48 rfl (by decide) rfl ?_
    refine j_iinc F (lv' := [(2, .int (iI ((k : Int) + 1))), (1, .int (iI (((xrF G S M H (k + 1)) : Nat) : Int))), (0, .ref (ad 0))]) dX7_byHeaps_49 1 rfl (by decide) rfl ?_
    refine j_goto F (tgt := 8) dX7_byHeaps_52 (by decide) ?_
    refine J.loc [0, 1, 2] rfl ?_
    exact ih8 ((k + 1), u7.1, 1) (by show (k + 1) ≤ H.length; omega) (by show H.length - (k + 1) < H.length - k; omega)

set_option maxHeartbeats 1000000 in
set_option maxRecDepth 100000 in
theorem c_X7_numberByHeaps {l : Launch} (hfl : l.flags = flags0) (D : va_G) (g : GT) (z : ZT) (ad : Nat → Nat) (th : Int) (cC : CT) (cT : TT) (cL : LT) (cP : PT) (H : List Nat) (G S M Nn : Nat) (c3 : C3) (hT : tabS cT) (hH : okH H) (hG : 1 ≤ G ∧ G ≤ 5) (hS : S ≤ 1) (hM : M ≤ 1) (hN : Nn ≤ 1) (hst : stM cC.1 H G S M Nn c3) : CI l yX7_numberByHeaps wsX7_numberByHeaps 7 160 0 D g z [.ref (ad 0)] (moC g ad th cC cT cL cP) (fun (r9 : Int32) (u9 : TT × LT) => tabT G S M u9.1 ∧ r9 = iI (((xrF G S M H H.length) : Nat) : Int)) (fun (u9 : TT × LT) => moC g ad 0 cC (u9.1.1, u9.1.2.1, u9.1.2.2.1, u9.1.2.2.2.1, u9.1.2.2.2.2.1, u9.1.2.2.2.2.2.1, u9.1.2.2.2.2.2.2.1, u9.1.2.2.2.2.2.2.2) (u9.2.1, u9.2.2.1, u9.2.2.2.1, u9.2.2.2.2.1, u9.2.2.2.2.2.1, u9.2.2.2.2.2.2.1, u9.2.2.2.2.2.2.2.1, u9.2.2.2.2.2.2.2.2) cP) 0 0 := by
  refine CI_of hfl (own := RX7) ⟨6, 0, 0, 140⟩ 7 160 0 (by decide +kernel) rfl rfl ⟨by decide, by decide, by decide +kernel⟩ ⟨by decide, by decide⟩ (le_ble rfl) (fun _ _ _ => rfl) ?_
  intro p e s m below meth c A Q F ret
  change J p l e _ s m _ below meth c A D _ Q 0 0 (moC g ad th cC cT cL cP) [(0, .ref (ad 0))] [] 0
  have hlen := okH_len hH
  refine j_aload_n F dX7_numberByHeaps_0 rfl 0 rfl ?_
  refine j_aload_n F dX7_numberByHeaps_1 rfl 0 rfl ?_
  refine j_callV_I F (As := []) (wr := []) (st := [.ref (ad 0)]) (c_X7_byHeaps hfl D g z ad th cC cT cL cP H G S M Nn c3 hT hH hG hS hM hN hst) (idx := 160) (C := RX7) gX7_numberByHeaps_X7_byHeaps rfl rfl [0, 1, 2, 3, 4, 5, 6, 7, 8, 9, 10, 11, 12, 13, 14] [] rfl rfl (by decide) (by decide) (by decide) (ci := 7) (q0 := 0) rfl rfl (by decide) (by decide) (le_ble rfl) ⟨by decide, by decide⟩ dX7_numberByHeaps_2 ?_
  rintro r9 u9 ⟨h7, h9⟩
  subst h9
  refine J.wsEq (ws2 := moC g ad th cC (u9.1.1, u9.1.2.1, u9.1.2.2.1, u9.1.2.2.2.1, u9.1.2.2.2.2.1, u9.1.2.2.2.2.2.1, u9.1.2.2.2.2.2.2.1, u9.1.2.2.2.2.2.2.2) (u9.2.1, u9.2.2.1, u9.2.2.2.1, u9.2.2.2.2.1, u9.2.2.2.2.2.1, u9.2.2.2.2.2.2.1, u9.2.2.2.2.2.2.2.1, u9.2.2.2.2.2.2.2.2) cP) rfl ?_
  refine j_callV_I F (As := [.int (iI (((xrF G S M H H.length) : Nat) : Int))]) (wr := []) (st := []) (c_X7_tells hfl D g z ad th cC u9.1 (u9.2.1, u9.2.2.1, u9.2.2.2.1, u9.2.2.2.2.1, u9.2.2.2.2.2.1, u9.2.2.2.2.2.2.1, u9.2.2.2.2.2.2.2.1, u9.2.2.2.2.2.2.2.2) cP (((xrF G S M H H.length) : Nat) : Int)) (idx := 148) (C := RX7) gX7_numberByHeaps_X7_tells rfl rfl [0, 1, 2, 3, 4, 5, 6, 7, 8, 9, 10, 11, 12, 13, 14] [] rfl rfl (by decide) (by decide) (by decide) (ci := 7) (q0 := 0) rfl rfl (by decide) (by decide) (le_ble rfl) ⟨by decide, by decide⟩ dX7_numberByHeaps_5 ?_
  rintro r2 u2 h2
  subst h2
  refine J.wsEq (ws2 := moC g ad 0 cC (u9.1.1, u9.1.2.1, u9.1.2.2.1, u9.1.2.2.2.1, u9.1.2.2.2.2.1, u9.1.2.2.2.2.2.1, u9.1.2.2.2.2.2.2.1, u9.1.2.2.2.2.2.2.2) (u9.2.1, u9.2.2.1, u9.2.2.2.1, u9.2.2.2.2.1, u9.2.2.2.2.2.1, u9.2.2.2.2.2.2.1, u9.2.2.2.2.2.2.2.1, u9.2.2.2.2.2.2.2.2) cP) rfl ?_
  exact ret _ u9 0 0 _ _ dX7_numberByHeaps_8 (by decide) (by decide) (⟨h7, rfl⟩)

set_option maxHeartbeats 1000000 in
set_option maxRecDepth 100000 in
theorem c_X7_wins {l : Launch} (hfl : l.flags = flags0) (D : va_G) (g : GT) (z : ZT) (ad : Nat → Nat) (th : Int) (cC : CT) (cT : TT) (cL : LT) (cP : PT) (H : List Nat) (G S M Nn : Nat) (c3 : C3) (x : Int) (hT : tabS cT) (hH : okH H) (hG : 1 ≤ G ∧ G ≤ 5) (hS : S ≤ 1) (hM : M ≤ 1) (hN : Nn ≤ 1) (hst : stM cC.1 H G S M Nn c3) (hx : rg x) (hi : (0 ≤ x ∧ x < (((mvL G S M H).length : Nat) : Int))) : CI l yX7_wins wsX7_wins 8 181 1 D g z [.ref (ad 0), .int (iI x)] (moC g ad th cC cT cL cP) (fun (r9 : Int32) (u9 : TT × NF × NF × NF × NF × NF × Int) => (tabT G S M u9.1 ∧ rep u9.2.1 H ∧ mrep3 (mvL G S M H) u9.2.2.1 u9.2.2.2.1 u9.2.2.2.2.1) ∧ r9 = iI ((1 - wonV ((bhV G S M H).getD x.toNat v0) Nn : Nat) : Int)) (fun (u9 : TT × NF × NF × NF × NF × NF × Int) => moC g ad 0 cC (u9.1.1, u9.1.2.1, u9.1.2.2.1, u9.1.2.2.2.1, u9.1.2.2.2.2.1, u9.1.2.2.2.2.2.1, u9.1.2.2.2.2.2.2.1, u9.1.2.2.2.2.2.2.2) (u9.2.1, ((H.length : Nat) : Int), u9.2.2.1, u9.2.2.2.1, u9.2.2.2.2.1, (((mvL G S M H).length : Nat) : Int), u9.2.2.2.2.2.1, u9.2.2.2.2.2.2) cP) 0 0 := by
  refine CI_of hfl (own := RX7) ⟨7, 0, 0, 160⟩ 8 181 1 (by decide +kernel) rfl rfl ⟨by decide, by decide, by decide +kernel⟩ ⟨by decide, by decide⟩ (le_ble rfl) (fun _ _ h => nar_01 h.2 (by omega)) ?_
  intro p e s m below meth c A Q F ret
  change J p l e _ s m _ below meth c A D _ Q 0 0 (moC g ad th cC cT cL cP) [(0, .ref (ad 0)), (1, .int (iI x))] [] 0
  have hlen := okH_len hH
  have hl84 := mvL_len (g := G) (sp := S) (mg := M) hH
  have hjx : x.toNat < (mvL G S M H).length := by omega
  have hwv := wonV_01 (getD_bhV hjx hH).2.1 Nn
  refine j_aload_n F dX7_wins_0 rfl 0 rfl ?_
  refine j_iload_n F dX7_wins_1 rfl 1 rfl ?_
  refine j_callV_I F (As := [.int (iI x)]) (wr := []) (st := []) (c_X7_asksMove hfl D g z ad th cC cT cL cP H G S M Nn c3 x hT hH hG hS hM hN hst hx hi) (idx := 145) (C := RX7) gX7_wins_X7_asksMove rfl rfl [0, 1, 2, 3, 4, 5, 6, 7, 8, 9, 10, 11, 12, 13, 14] [] rfl rfl (by decide) (by decide) (by decide) (ci := 7) (q0 := 0) rfl rfl (by decide) (by decide) (le_ble rfl) ⟨by decide, by decide⟩ dX7_wins_2 ?_
  rintro r9 u9 ⟨⟨e9, q9, h7, h6, h5, h4⟩, h9⟩
  subst h9
  refine J.wsEq (ws2 := moC g ad 0 cC (u9.1.1, u9.1.2.1, u9.1.2.2.1, u9.1.2.2.2.1, u9.1.2.2.2.2.1, u9.1.2.2.2.2.2.1, u9.1.2.2.2.2.2.2.1, u9.1.2.2.2.2.2.2.2) (u9.2.1, ((H.length : Nat) : Int), u9.2.2.1, u9.2.2.2.1, u9.2.2.2.2.1, (((mvL G S M H).length : Nat) : Int), u9.2.2.2.2.2.1, ((H.length : Nat) : Int)) cP) rfl ?_
  refine j_if_eq F (tgt := 24) dX7_wins_5 (by decide) (by unfold rg; omega) (fun h9 => by exfalso; omega) (fun c5 => ?_)
  refine j_aload_n F dX7_wins_8 rfl 0 rfl ?_
  refine j_aload_n F dX7_wins_9 rfl 0 rfl ?_
  refine j_iload_n F dX7_wins_10 rfl 1 rfl ?_
  refine J.top (congrArg iI (show x = ((x.toNat : Nat) : Int) from by omega)) ?_
  refine j_callV_I F (As := [.int (iI ((x.toNat : Nat) : Int))]) (wr := []) (st := [.ref (ad 0)]) (c_X7_positionBehind hfl D g z ad 0 cC u9.1 cP H G S M u9.2.1 u9.2.2.1 u9.2.2.2.1 u9.2.2.2.2.1 u9.2.2.2.2.2.1 ((H.length : Nat) : Int) x.toNat hH h7.1 h6 h5 hjx) (idx := 100) (C := RX7) gX7_wins_X7_positionBehind rfl rfl [0, 1, 2, 3, 4, 5, 6, 7, 8, 9, 10, 11, 12, 13, 14] [] rfl rfl (by decide) (by decide) (by decide) (ci := 7) (q0 := 0) rfl rfl (by decide) (by decide) (le_ble rfl) ⟨by decide, by decide⟩ dX7_wins_11 ?_
  rintro r4 u7 ⟨h8, q7, e7, b7, n7⟩
  subst h8
  refine J.wsEq (ws2 := moC g ad 0 cC (u9.1.1, u9.1.2.1, u9.1.2.2.1, u9.1.2.2.2.1, u9.1.2.2.2.2.1, u9.1.2.2.2.2.2.1, u9.1.2.2.2.2.2.2.1, u9.1.2.2.2.2.2.2.2) (u9.2.1, ((H.length : Nat) : Int), u9.2.2.1, u9.2.2.2.1, u9.2.2.2.2.1, (((mvL G S M H).length : Nat) : Int), u7.1, u7.2.1) cP) rfl ?_
  refine j_callV_I F (As := [.int (iI ((u7.2.2 : Nat) : Int))]) (wr := []) (st := []) (c_X7_isPositionWon hfl D g z ad 0 cC u9.1 (u9.2.1, ((H.length : Nat) : Int), u9.2.2.1, u9.2.2.2.1, u9.2.2.2.2.1, (((mvL G S M H).length : Nat) : Int), u7.1, u7.2.1) cP H G S M Nn c3 u7.2.2 (bhM G S M H x.toNat) (bhM_ok hH hjx) q7 e7 h7.2.2 hG hS hM hN hst) (idx := 163) (C := RX7) gX7_wins_X7_isPositionWon rfl rfl [0, 1, 2, 3, 4, 5, 6, 7, 8, 9, 10, 11, 12, 13, 14] [] rfl rfl (by decide) (by decide) (by decide) (ci := 7) (q0 := 0) rfl rfl (by decide) (by decide) (le_ble rfl) ⟨by decide, by decide⟩ dX7_wins_14 ?_
  rintro r3 u3 h3
  rw [← bhV_at hjx] at h3
  subst h3
  refine J.wsEq (ws2 := moC g ad 0 cC (u9.1.1, u9.1.2.1, u9.1.2.2.1, u9.1.2.2.2.1, u9.1.2.2.2.2.1, u9.1.2.2.2.2.2.1, u9.1.2.2.2.2.2.2.1, u9.1.2.2.2.2.2.2.2) (u9.2.1, ((H.length : Nat) : Int), u9.2.2.1, u9.2.2.2.1, u9.2.2.2.2.1, (((mvL G S M H).length : Nat) : Int), u7.1, u7.2.1) cP) rfl ?_
  refine j_if_ne F (tgt := 24) dX7_wins_17 (by decide) (by unfold rg; omega) (fun c17 => ?_) (fun c17 => ?_)
  · refine j_iconst F dX7_wins_24 ?_
    exact ret _ (u9.1, u9.2.1, u9.2.2.1, u9.2.2.2.1, u9.2.2.2.2.1, u7.1, u7.2.1) 0 0 _ _ dX7_wins_25 (by decide) (by decide) (⟨⟨h7, h6, h5⟩, congrArg iI (by omega)⟩)
  · refine j_iconst F dX7_wins_20 ?_
    refine j_goto F (tgt := 25) dX7_wins_21 (by decide) ?_
    exact ret _ (u9.1, u9.2.1, u9.2.2.1, u9.2.2.2.1, u9.2.2.2.2.1, u7.1, u7.2.1) 0 0 _ _ dX7_wins_25 (by decide) (by decide) (⟨⟨h7, h6, h5⟩, congrArg iI (by omega)⟩)

set_option maxHeartbeats 1000000 in
set_option maxRecDepth 100000 in
theorem c_X7_wins_t {l : Launch} (hfl : l.flags = flags0) (D : va_G) (g : GT) (z : ZT) (ad : Nat → Nat) (th : Int) (cC : CT) (cT : TT) (cL : LT) (cP : PT) (H : List Nat) (G S M Nn : Nat) (c3 : C3) (x : Int) (hT : tabS cT) (hH : okH H) (hG : 1 ≤ G ∧ G ≤ 5) (hS : S ≤ 1) (hM : M ≤ 1) (hN : Nn ≤ 1) (hst : stM cC.1 H G S M Nn c3) (hx : rg x) (hi : ¬ (0 ≤ x ∧ x < (((mvL G S M H).length : Nat) : Int))) : CI l yX7_wins wsX7_wins 8 181 1 D g z [.ref (ad 0), .int (iI x)] (moC g ad th cC cT cL cP) (fun (r9 : Int32) (u9 : TT × NF × NF × NF × NF × NF × Nat) => tabT G S M u9.1 ∧ r9 = iI 0) (fun (u9 : TT × NF × NF × NF × NF × NF × Nat) => moC g ad 1 cC (u9.1.1, u9.1.2.1, u9.1.2.2.1, u9.1.2.2.2.1, u9.1.2.2.2.2.1, u9.1.2.2.2.2.2.1, u9.1.2.2.2.2.2.2.1, u9.1.2.2.2.2.2.2.2) (u9.2.1, ((H.length : Nat) : Int), u9.2.2.1, u9.2.2.2.1, u9.2.2.2.2.1, (((mvL G S M H).length : Nat) : Int), u9.2.2.2.2.2.1, ((H.length : Nat) : Int)) cP) 0 0 := by
  refine CI_of hfl (own := RX7) ⟨7, 0, 0, 160⟩ 8 181 1 (by decide +kernel) rfl rfl ⟨by decide, by decide, by decide +kernel⟩ ⟨by decide, by decide⟩ (le_ble rfl) (fun _ _ h => nar_01 h.2 (by omega)) ?_
  intro p e s m below meth c A Q F ret
  change J p l e _ s m _ below meth c A D _ Q 0 0 (moC g ad th cC cT cL cP) [(0, .ref (ad 0)), (1, .int (iI x))] [] 0
  have hlen := okH_len hH
  have hl84 := mvL_len (g := G) (sp := S) (mg := M) hH
  refine j_aload_n F dX7_wins_0 rfl 0 rfl ?_
  refine j_iload_n F dX7_wins_1 rfl 1 rfl ?_
  refine j_callV_I F (As := [.int (iI x)]) (wr := []) (st := []) (c_X7_asksMove_t hfl D g z ad th cC cT cL cP H G S M Nn c3 x hT hH hG hS hM hN hst hx hi) (idx := 145) (C := RX7) gX7_wins_X7_asksMove rfl rfl [0, 1, 2, 3, 4, 5, 6, 7, 8, 9, 10, 11, 12, 13, 14] [] rfl rfl (by decide) (by decide) (by decide) (ci := 7) (q0 := 0) rfl rfl (by decide) (by decide) (le_ble rfl) ⟨by decide, by decide⟩ dX7_wins_2 ?_
  rintro r9 u9 ⟨⟨e9, q9, h7, h6, h5, h4⟩, h9⟩
  subst h9
  refine J.wsEq (ws2 := moC g ad 1 cC (u9.1.1, u9.1.2.1, u9.1.2.2.1, u9.1.2.2.2.1, u9.1.2.2.2.2.1, u9.1.2.2.2.2.2.1, u9.1.2.2.2.2.2.2.1, u9.1.2.2.2.2.2.2.2) (u9.2.1, ((H.length : Nat) : Int), u9.2.2.1, u9.2.2.2.1, u9.2.2.2.2.1, (((mvL G S M H).length : Nat) : Int), u9.2.2.2.2.2.1, ((H.length : Nat) : Int)) cP) rfl ?_
  refine j_if_eq F (tgt := 24) dX7_wins_5 (by decide) (by unfold rg; omega) (fun c5 => ?_) (fun h9 => by exfalso; omega)
  refine j_iconst F dX7_wins_24 ?_
  exact ret _ u9 0 0 _ _ dX7_wins_25 (by decide) (by decide) (⟨h7, rfl⟩)

theorem fw_hit {vs : List VT} {nm j : Nat} (h : fwF vs nm j = -1) (h2 : wonV (vs.getD j v0) nm = 0) (hj : j < vs.length) {n : Nat} (hn : n = vs.length) : fwF vs nm n = (j : Int) := by
  have e : fwF vs nm (j + 1) = (j : Int) := by rw [fwF, if_pos h, if_pos h2]
  have e2 := fwF_keep (vs := vs) (nm := nm) (j := j + 1) (by rw [e]; omega) vs.length (by omega)
  rw [hn, e2, e]

set_option maxHeartbeats 1000000 in
set_option maxRecDepth 100000 in
theorem c_X7_winning_0 {l : Launch} (hfl : l.flags = flags0) (D : va_G) (g : GT) (z : ZT) (ad : Nat → Nat) (th : Int) (cC : CT) (cT : TT) (cL : LT) (cP : PT) (H : List Nat) (G S M Nn : Nat) (c3 : C3) (hT : tabS cT) (hH : okH H) (hG : 1 ≤ G ∧ G ≤ 5) (hS : S ≤ 1) (hM : M ≤ 1) (hN : Nn ≤ 1) (hst : stM cC.1 H G S M Nn c3) : CI l yX7_winning wsX7_winning 7 162 1 D g z [.ref (ad 0), .int (iI 0)] (moC g ad th cC cT cL cP) (fun (r9 : Int32) (u9 : TT × NF × NF × NF × NF × NF × Int) => (tabT G S M u9.1 ∧ rep u9.2.1 H ∧ mrep3 (mvL G S M H) u9.2.2.1 u9.2.2.2.1 u9.2.2.2.2.1) ∧ r9 = iI ((wcF (bhV G S M H) Nn (mvL G S M H).length : Nat) : Int)) (fun (u9 : TT × NF × NF × NF × NF × NF × Int) => moC g ad th cC (u9.1.1, u9.1.2.1, u9.1.2.2.1, u9.1.2.2.2.1, u9.1.2.2.2.2.1, u9.1.2.2.2.2.2.1, u9.1.2.2.2.2.2.2.1, u9.1.2.2.2.2.2.2.2) (u9.2.1, ((H.length : Nat) : Int), u9.2.2.1, u9.2.2.2.1, u9.2.2.2.2.1, (((mvL G S M H).length : Nat) : Int), u9.2.2.2.2.2.1, u9.2.2.2.2.2.2) cP) 0 0 := by
  refine CI_of hfl (own := RX7) ⟨6, 0, 0, 139⟩ 7 162 1 (by decide +kernel) rfl rfl ⟨by decide, by decide, by decide +kernel⟩ ⟨by decide, by decide⟩ (le_ble rfl) (fun _ _ _ => rfl) ?_
  intro p e s m below meth c A Q F ret
  change J p l e _ s m _ below meth c A D _ Q 0 0 (moC g ad th cC cT cL cP) [(0, .ref (ad 0)), (1, .int (iI 0))] [] 0
  have hlen := okH_len hH
  have hl84 := mvL_len (g := G) (sp := S) (mg := M) hH
  refine j_aload_n F dX7_winning_0 rfl 0 rfl ?_
  refine j_callV_I F (As := []) (wr := []) (st := []) (c_X7_looks hfl D g z ad th cC cT cL cP H G S M Nn c3 hT hH hG hS hM hN hst) (idx := 129) (C := RX7) gX7_winning_X7_looks rfl rfl [0, 1, 2, 3, 4, 5, 6, 7, 8, 9, 10, 11, 12, 13, 14] [] rfl rfl (by decide) (by decide) (by decide) (ci := 7) (q0 := 0) rfl rfl (by decide) (by decide) (le_ble rfl) ⟨by decide, by decide⟩ dX7_winning_1 ?_
  rintro r9 u9 ⟨h9, q9, e9, h7, h6, h5, h4⟩
  subst h9
  refine J.wsEq (ws2 := moC g ad th cC (u9.1.1, u9.1.2.1, u9.1.2.2.1, u9.1.2.2.2.1, u9.1.2.2.2.2.1, u9.1.2.2.2.2.2.1, u9.1.2.2.2.2.2.2.1, u9.1.2.2.2.2.2.2.2) (u9.2.1, ((H.length : Nat) : Int), u9.2.2.1, u9.2.2.2.1, u9.2.2.2.2.1, (((mvL G S M H).length : Nat) : Int), u9.2.2.2.2.2.1, ((H.length : Nat) : Int)) cP) rfl ?_
  refine j_pop F dX7_winning_4 rfl ?_
  refine j_iconst F dX7_winning_5 ?_
  refine j_istore_n F (lv' := [(2, .int (iI 0)), (0, .ref (ad 0)), (1, .int (iI 0))]) dX7_winning_6 rfl (by decide) rfl ?_
  refine j_iconst F dX7_winning_7 ?_
  refine j_istore_n F (lv' := [(3, .int (iI 0)), (2, .int (iI 0)), (0, .ref (ad 0)), (1, .int (iI 0))]) dX7_winning_8 rfl (by decide) rfl ?_
  refine J.loc [0, 1, 2, 3] rfl ?_
  refine J_loop (σ := Nat × NF × Int) (fun x9 : Nat × NF × Int => match x9 with | (j, bf, nb) => j ≤ (mvL G S M H).length) (fun x9 : Nat × NF × Int => match x9 with | (j, bf, nb) => (mvL G S M H).length - j) (fun x9 : Nat × NF × Int => match x9 with | (j, bf, nb) => moC g ad th cC (u9.1.1, u9.1.2.1, u9.1.2.2.1, u9.1.2.2.2.1, u9.1.2.2.2.2.1, u9.1.2.2.2.2.2.1, u9.1.2.2.2.2.2.2.1, u9.1.2.2.2.2.2.2.2) (u9.2.1, ((H.length : Nat) : Int), u9.2.2.1, u9.2.2.2.1, u9.2.2.2.2.1, (((mvL G S M H).length : Nat) : Int), bf, nb) cP) (fun x9 : Nat × NF × Int => match x9 with | (j, bf, nb) => [(3, .int (iI (j : Int))), (2, .int (iI (((wcF (bhV G S M H) Nn j) : Nat) : Int))), (0, .ref (ad 0)), (1, .int (iI 0))]) (0, u9.2.2.2.2.2.1, ((H.length : Nat) : Int)) (by show 0 ≤ (mvL G S M H).length; exact Nat.zero_le _) ?_
  rintro ⟨j, bf, nb⟩ hI ih9
  have hI : j ≤ (mvL G S M H).length := hI
  refine j_iload_n F dX7_winning_9 rfl 0 rfl ?_
  refine j_aload_n F dX7_winning_10 rfl 2 rfl ?_
  refine j_getf F (ref := "CairnGameModel") (C := RX7) (T := TX7) (N := 27) (ci := 7) (index := 76) (v := .int (iI (((mvL G S M H).length : Nat) : Int))) (fun w h => (List.mem_cons_of_mem _ (List.mem_append_right _ h))) 0 rfl rfl 19 (by decide) (List.mem_cons_of_mem _ (List.mem_append_left _ (List.mem_append_left _ (List.mem_of_getElem? (l := wsX7_winning_r1) (i := 0) rfl)))) rfl rfl dX7_winning_11 ?_
  refine j_icmp_ge F (tgt := 44) dX7_winning_14 (by decide) ⟨(by unfold rg; omega), (by unfold rg; omega)⟩ (fun c14 => ?_) (fun c14 => ?_)
  · have ej : j = (mvL G S M H).length := by omega
    refine J.lvEq (lv2 := [(3, .int (iI (j : Int))), (2, .int (iI (((wcF (bhV G S M H) Nn (mvL G S M H).length) : Nat) : Int))), (0, .ref (ad 0)), (1, .int (iI 0))]) (by first | (rw [ej]) | (dsimp only; rw [ej])) ?_
    refine j_iload_n F dX7_winning_44 rfl 3 rfl ?_
    refine j_if_eq F (tgt := 52) dX7_winning_45 (by decide) (by unfold rg; omega) (fun c45 => ?_) (fun h9 => by exfalso; omega)
    refine j_iload_n F dX7_winning_52 rfl 1 rfl ?_
    exact ret _ (u9.1, u9.2.1, u9.2.2.1, u9.2.2.2.1, u9.2.2.2.2.1, bf, nb) 0 0 _ _ dX7_winning_53 (by decide) (by decide) (⟨⟨h7, h6, h5⟩, rfl⟩)
  · have hj : j < (mvL G S M H).length := by omega
    have hwv := wonV_01 (getD_bhV hj hH).2.1 Nn
    refine j_aload_n F dX7_winning_17 rfl 2 rfl ?_
    refine j_aload_n F dX7_winning_18 rfl 2 rfl ?_
    refine j_iload_n F dX7_winning_19 rfl 0 rfl ?_
    refine j_callV_I F (As := [.int (iI (j : Int))]) (wr := []) (st := [.ref (ad 0)]) (c_X7_positionBehind hfl D g z ad th cC u9.1 cP H G S M u9.2.1 u9.2.2.1 u9.2.2.2.1 u9.2.2.2.2.1 bf nb j hH h7.1 h6 h5 hj) (idx := 100) (C := RX7) gX7_winning_X7_positionBehind rfl rfl [0, 1, 2, 3, 4, 5, 6, 7, 8, 9, 10, 11, 12, 13, 14] [] rfl rfl (by decide) (by decide) (by decide) (ci := 7) (q0 := 0) rfl rfl (by decide) (by decide) (le_ble rfl) ⟨by decide, by decide⟩ dX7_winning_20 ?_
    rintro r4 u7 ⟨h8, q7, e7, b7, n7⟩
    subst h8
    refine J.wsEq (ws2 := moC g ad th cC (u9.1.1, u9.1.2.1, u9.1.2.2.1, u9.1.2.2.2.1, u9.1.2.2.2.2.1, u9.1.2.2.2.2.2.1, u9.1.2.2.2.2.2.2.1, u9.1.2.2.2.2.2.2.2) (u9.2.1, ((H.length : Nat) : Int), u9.2.2.1, u9.2.2.2.1, u9.2.2.2.2.1, (((mvL G S M H).length : Nat) : Int), u7.1, u7.2.1) cP) rfl ?_
    refine j_callV_I F (As := [.int (iI ((u7.2.2 : Nat) : Int))]) (wr := []) (st := []) (c_X7_isPositionWon hfl D g z ad th cC u9.1 (u9.2.1, ((H.length : Nat) : Int), u9.2.2.1, u9.2.2.2.1, u9.2.2.2.2.1, (((mvL G S M H).length : Nat) : Int), u7.1, u7.2.1) cP H G S M Nn c3 u7.2.2 (bhM G S M H j) (bhM_ok hH hj) q7 e7 h7.2.2 hG hS hM hN hst) (idx := 163) (C := RX7) gX7_winning_X7_isPositionWon rfl rfl [0, 1, 2, 3, 4, 5, 6, 7, 8, 9, 10, 11, 12, 13, 14] [] rfl rfl (by decide) (by decide) (by decide) (ci := 7) (q0 := 0) rfl rfl (by decide) (by decide) (le_ble rfl) ⟨by decide, by decide⟩ dX7_winning_23 ?_
    rintro r3 u3 h3
    rw [← bhV_at hj] at h3
    subst h3
    refine J.wsEq (ws2 := moC g ad th cC (u9.1.1, u9.1.2.1, u9.1.2.2.1, u9.1.2.2.2.1, u9.1.2.2.2.2.1, u9.1.2.2.2.2.2.1, u9.1.2.2.2.2.2.2.1, u9.1.2.2.2.2.2.2.2) (u9.2.1, ((H.length : Nat) : Int), u9.2.2.1, u9.2.2.2.1, u9.2.2.2.2.1, (((mvL G S M H).length : Nat) : Int), u7.1, u7.2.1) cP) rfl ?_
    refine j_if_ne F (tgt := 38) dX7_winning_26 (by decide) (by unfold rg; omega) (fun c26 => ?_) (fun c26 => ?_)
    · have ew : wcF (bhV G S M H) Nn j = wcF (bhV G S M H) Nn (j + 1) := by rw [wcF, if_neg (by omega), Nat.add_zero]
      refine J.lvEq (lv2 := [(3, .int (iI (j : Int))), (2, .int (iI (((wcF (bhV G S M H) Nn (j + 1)) : Nat) : Int))), (0, .ref (ad 0)), (1, .int (iI 0))]) (by first | (rw [ew]) | (dsimp only; rw [ew])) ?_
      refine j_iinc F (lv' := [(3, .int (iI ((j : Int) + 1))), (2, .int (iI (((wcF (bhV G S M H) Nn (j + 1)) : Nat) : Int))), (0, .ref (ad 0)), (1, .int (iI 0))]) dX7_winning_38 0 rfl (by decide) rfl ?_
      refine j_goto F (tgt := 9) dX7_winning_41 (by decide) ?_
      refine J.loc [0, 1, 2, 3] rfl ?_
      exact ih9 ((j + 1), u7.1, u7.2.1) (by show (j + 1) ≤ (mvL G S M H).length; omega) (by show (mvL G S M H).length - (j + 1) < (mvL G S M H).length - j; omega)
    · refine j_iload_n F dX7_winning_29 rfl 3 rfl ?_
      refine j_if_eq F (tgt := 35) dX7_winning_30 (by decide) (by unfold rg; omega) (fun c30 => ?_) (fun h9 => by exfalso; omega)
      refine j_iinc F (lv' := [(2, .int (iI ((((wcF (bhV G S M H) Nn j) : Nat) : Int) + 1))), (3, .int (iI (j : Int))), (0, .ref (ad 0)), (1, .int (iI 0))]) dX7_winning_35 1 rfl (by decide) rfl ?_
      have ew : ((wcF (bhV G S M H) Nn j : Nat) : Int) + 1 = ((wcF (bhV G S M H) Nn (j + 1) : Nat) : Int) := by rw [wcF, if_pos (by omega)]; rfl
      refine J.lvEq (lv2 := [(2, .int (iI (((wcF (bhV G S M H) Nn (j + 1)) : Nat) : Int))), (3, .int (iI (j : Int))), (0, .ref (ad 0)), (1, .int (iI 0))]) (by first | (rw [ew]) | (dsimp only; rw [ew])) ?_
      refine j_iinc F (lv' := [(3, .int (iI ((j : Int) + 1))), (2, .int (iI (((wcF (bhV G S M H) Nn (j + 1)) : Nat) : Int))), (0, .ref (ad 0)), (1, .int (iI 0))]) dX7_winning_38 1 rfl (by decide) rfl ?_
      refine j_goto F (tgt := 9) dX7_winning_41 (by decide) ?_
      refine J.loc [0, 1, 2, 3] rfl ?_
      exact ih9 ((j + 1), u7.1, u7.2.1) (by show (j + 1) ≤ (mvL G S M H).length; omega) (by show (mvL G S M H).length - (j + 1) < (mvL G S M H).length - j; omega)

set_option maxHeartbeats 1000000 in
set_option maxRecDepth 100000 in
theorem c_X7_winning_1 {l : Launch} (hfl : l.flags = flags0) (D : va_G) (g : GT) (z : ZT) (ad : Nat → Nat) (th : Int) (cC : CT) (cT : TT) (cL : LT) (cP : PT) (H : List Nat) (G S M Nn : Nat) (c3 : C3) (hT : tabS cT) (hH : okH H) (hG : 1 ≤ G ∧ G ≤ 5) (hS : S ≤ 1) (hM : M ≤ 1) (hN : Nn ≤ 1) (hst : stM cC.1 H G S M Nn c3) : CI l yX7_winning wsX7_winning 7 162 1 D g z [.ref (ad 0), .int (iI 1)] (moC g ad th cC cT cL cP) (fun (r9 : Int32) (u9 : TT × NF × NF × NF × NF × NF × Int) => (tabT G S M u9.1 ∧ rep u9.2.1 H ∧ mrep3 (mvL G S M H) u9.2.2.1 u9.2.2.2.1 u9.2.2.2.2.1) ∧ r9 = iI (fwF (bhV G S M H) Nn (mvL G S M H).length)) (fun (u9 : TT × NF × NF × NF × NF × NF × Int) => moC g ad th cC (u9.1.1, u9.1.2.1, u9.1.2.2.1, u9.1.2.2.2.1, u9.1.2.2.2.2.1, u9.1.2.2.2.2.2.1, u9.1.2.2.2.2.2.2.1, u9.1.2.2.2.2.2.2.2) (u9.2.1, ((H.length : Nat) : Int), u9.2.2.1, u9.2.2.2.1, u9.2.2.2.2.1, (((mvL G S M H).length : Nat) : Int), u9.2.2.2.2.2.1, u9.2.2.2.2.2.2) cP) 0 0 := by
  refine CI_of hfl (own := RX7) ⟨6, 0, 0, 139⟩ 7 162 1 (by decide +kernel) rfl rfl ⟨by decide, by decide, by decide +kernel⟩ ⟨by decide, by decide⟩ (le_ble rfl) (fun _ _ _ => rfl) ?_
  intro p e s m below meth c A Q F ret
  change J p l e _ s m _ below meth c A D _ Q 0 0 (moC g ad th cC cT cL cP) [(0, .ref (ad 0)), (1, .int (iI 1))] [] 0
  have hlen := okH_len hH
  have hl84 := mvL_len (g := G) (sp := S) (mg := M) hH
  refine j_aload_n F dX7_winning_0 rfl 0 rfl ?_
  refine j_callV_I F (As := []) (wr := []) (st := []) (c_X7_looks hfl D g z ad th cC cT cL cP H G S M Nn c3 hT hH hG hS hM hN hst) (idx := 129) (C := RX7) gX7_winning_X7_looks rfl rfl [0, 1, 2, 3, 4, 5, 6, 7, 8, 9, 10, 11, 12, 13, 14] [] rfl rfl (by decide) (by decide) (by decide) (ci := 7) (q0 := 0) rfl rfl (by decide) (by decide) (le_ble rfl) ⟨by decide, by decide⟩ dX7_winning_1 ?_
  rintro r9 u9 ⟨h9, q9, e9, h7, h6, h5, h4⟩
  subst h9
  refine J.wsEq (ws2 := moC g ad th cC (u9.1.1, u9.1.2.1, u9.1.2.2.1, u9.1.2.2.2.1, u9.1.2.2.2.2.1, u9.1.2.2.2.2.2.1, u9.1.2.2.2.2.2.2.1, u9.1.2.2.2.2.2.2.2) (u9.2.1, ((H.length : Nat) : Int), u9.2.2.1, u9.2.2.2.1, u9.2.2.2.2.1, (((mvL G S M H).length : Nat) : Int), u9.2.2.2.2.2.1, ((H.length : Nat) : Int)) cP) rfl ?_
  refine j_pop F dX7_winning_4 rfl ?_
  refine j_iconst F dX7_winning_5 ?_
  refine j_istore_n F (lv' := [(2, .int (iI 0)), (0, .ref (ad 0)), (1, .int (iI 1))]) dX7_winning_6 rfl (by decide) rfl ?_
  refine j_iconst F dX7_winning_7 ?_
  refine j_istore_n F (lv' := [(3, .int (iI 0)), (2, .int (iI 0)), (0, .ref (ad 0)), (1, .int (iI 1))]) dX7_winning_8 rfl (by decide) rfl ?_
  refine J.loc [0, 1, 2, 3] rfl ?_
  refine J_loop (σ := Nat × NF × Int) (fun x9 : Nat × NF × Int => match x9 with | (j, bf, nb) => j ≤ (mvL G S M H).length ∧ fwF (bhV G S M H) Nn j = -1) (fun x9 : Nat × NF × Int => match x9 with | (j, bf, nb) => (mvL G S M H).length - j) (fun x9 : Nat × NF × Int => match x9 with | (j, bf, nb) => moC g ad th cC (u9.1.1, u9.1.2.1, u9.1.2.2.1, u9.1.2.2.2.1, u9.1.2.2.2.2.1, u9.1.2.2.2.2.2.1, u9.1.2.2.2.2.2.2.1, u9.1.2.2.2.2.2.2.2) (u9.2.1, ((H.length : Nat) : Int), u9.2.2.1, u9.2.2.2.1, u9.2.2.2.2.1, (((mvL G S M H).length : Nat) : Int), bf, nb) cP) (fun x9 : Nat × NF × Int => match x9 with | (j, bf, nb) => [(3, .int (iI (j : Int))), (2, .int (iI 0)), (0, .ref (ad 0)), (1, .int (iI 1))]) (0, u9.2.2.2.2.2.1, ((H.length : Nat) : Int)) (by show 0 ≤ (mvL G S M H).length ∧ fwF (bhV G S M H) Nn 0 = -1; exact ⟨Nat.zero_le _, rfl⟩) ?_
  rintro ⟨j, bf, nb⟩ hI ih9
  have hI : j ≤ (mvL G S M H).length ∧ fwF (bhV G S M H) Nn j = -1 := hI
  obtain ⟨i1, i2⟩ := hI
  refine j_iload_n F dX7_winning_9 rfl 0 rfl ?_
  refine j_aload_n F dX7_winning_10 rfl 2 rfl ?_
  refine j_getf F (ref := "CairnGameModel") (C := RX7) (T := TX7) (N := 27) (ci := 7) (index := 76) (v := .int (iI (((mvL G S M H).length : Nat) : Int))) (fun w h => (List.mem_cons_of_mem _ (List.mem_append_right _ h))) 0 rfl rfl 19 (by decide) (List.mem_cons_of_mem _ (List.mem_append_left _ (List.mem_append_left _ (List.mem_of_getElem? (l := wsX7_winning_r1) (i := 0) rfl)))) rfl rfl dX7_winning_11 ?_
  refine j_icmp_ge F (tgt := 44) dX7_winning_14 (by decide) ⟨(by unfold rg; omega), (by unfold rg; omega)⟩ (fun c14 => ?_) (fun c14 => ?_)
  · have ej : j = (mvL G S M H).length := by omega
    rw [ej] at i2
    refine j_iload_n F dX7_winning_44 rfl 3 rfl ?_
    refine j_if_eq F (tgt := 52) dX7_winning_45 (by decide) (by unfold rg; omega) (fun h9 => by exfalso; omega) (fun c45 => ?_)
    refine j_iconst F dX7_winning_48 ?_
    refine j_goto F (tgt := 53) dX7_winning_49 (by decide) ?_
    exact ret _ (u9.1, u9.2.1, u9.2.2.1, u9.2.2.2.1, u9.2.2.2.2.1, bf, nb) 0 0 _ _ dX7_winning_53 (by decide) (by decide) (⟨⟨h7, h6, h5⟩, by rw [i2]⟩)
  · have hj : j < (mvL G S M H).length := by omega
    have hwv := wonV_01 (getD_bhV hj hH).2.1 Nn
    refine j_aload_n F dX7_winning_17 rfl 2 rfl ?_
    refine j_aload_n F dX7_winning_18 rfl 2 rfl ?_
    refine j_iload_n F dX7_winning_19 rfl 0 rfl ?_
    refine j_callV_I F (As := [.int (iI (j : Int))]) (wr := []) (st := [.ref (ad 0)]) (c_X7_positionBehind hfl D g z ad th cC u9.1 cP H G S M u9.2.1 u9.2.2.1 u9.2.2.2.1 u9.2.2.2.2.1 bf nb j hH h7.1 h6 h5 hj) (idx := 100) (C := RX7) gX7_winning_X7_positionBehind rfl rfl [0, 1, 2, 3, 4, 5, 6, 7, 8, 9, 10, 11, 12, 13, 14] [] rfl rfl (by decide) (by decide) (by decide) (ci := 7) (q0 := 0) rfl rfl (by decide) (by decide) (le_ble rfl) ⟨by decide, by decide⟩ dX7_winning_20 ?_
    rintro r4 u7 ⟨h8, q7, e7, b7, n7⟩
    subst h8
    refine J.wsEq (ws2 := moC g ad th cC (u9.1.1, u9.1.2.1, u9.1.2.2.1, u9.1.2.2.2.1, u9.1.2.2.2.2.1, u9.1.2.2.2.2.2.1, u9.1.2.2.2.2.2.2.1, u9.1.2.2.2.2.2.2.2) (u9.2.1, ((H.length : Nat) : Int), u9.2.2.1, u9.2.2.2.1, u9.2.2.2.2.1, (((mvL G S M H).length : Nat) : Int), u7.1, u7.2.1) cP) rfl ?_
    refine j_callV_I F (As := [.int (iI ((u7.2.2 : Nat) : Int))]) (wr := []) (st := []) (c_X7_isPositionWon hfl D g z ad th cC u9.1 (u9.2.1, ((H.length : Nat) : Int), u9.2.2.1, u9.2.2.2.1, u9.2.2.2.2.1, (((mvL G S M H).length : Nat) : Int), u7.1, u7.2.1) cP H G S M Nn c3 u7.2.2 (bhM G S M H j) (bhM_ok hH hj) q7 e7 h7.2.2 hG hS hM hN hst) (idx := 163) (C := RX7) gX7_winning_X7_isPositionWon rfl rfl [0, 1, 2, 3, 4, 5, 6, 7, 8, 9, 10, 11, 12, 13, 14] [] rfl rfl (by decide) (by decide) (by decide) (ci := 7) (q0 := 0) rfl rfl (by decide) (by decide) (le_ble rfl) ⟨by decide, by decide⟩ dX7_winning_23 ?_
    rintro r3 u3 h3
    rw [← bhV_at hj] at h3
    subst h3
    refine J.wsEq (ws2 := moC g ad th cC (u9.1.1, u9.1.2.1, u9.1.2.2.1, u9.1.2.2.2.1, u9.1.2.2.2.2.1, u9.1.2.2.2.2.2.1, u9.1.2.2.2.2.2.2.1, u9.1.2.2.2.2.2.2.2) (u9.2.1, ((H.length : Nat) : Int), u9.2.2.1, u9.2.2.2.1, u9.2.2.2.2.1, (((mvL G S M H).length : Nat) : Int), u7.1, u7.2.1) cP) rfl ?_
    refine j_if_ne F (tgt := 38) dX7_winning_26 (by decide) (by unfold rg; omega) (fun c26 => ?_) (fun c26 => ?_)
    · refine j_iinc F (lv' := [(3, .int (iI ((j : Int) + 1))), (2, .int (iI 0)), (0, .ref (ad 0)), (1, .int (iI 1))]) dX7_winning_38 0 rfl (by decide) rfl ?_
      refine j_goto F (tgt := 9) dX7_winning_41 (by decide) ?_
      refine J.loc [0, 1, 2, 3] rfl ?_
      exact ih9 ((j + 1), u7.1, u7.2.1) (by show (j + 1) ≤ (mvL G S M H).length ∧ fwF (bhV G S M H) Nn (j + 1) = -1; exact ⟨by omega, fw_no i2 (by omega)⟩) (by show (mvL G S M H).length - (j + 1) < (mvL G S M H).length - j; omega)
    · refine j_iload_n F dX7_winning_29 rfl 3 rfl ?_
      refine j_if_eq F (tgt := 35) dX7_winning_30 (by decide) (by unfold rg; omega) (fun h9 => by exfalso; omega) (fun c30 => ?_)
      refine j_iload_n F dX7_winning_33 rfl 0 rfl ?_
      exact ret _ (u9.1, u9.2.1, u9.2.2.1, u9.2.2.2.1, u9.2.2.2.2.1, u7.1, u7.2.1) 0 0 _ _ dX7_winning_34 (by decide) (by decide) (⟨⟨h7, h6, h5⟩, congrArg iI (fw_hit i2 (by omega) (by rw [← bhV_len]; exact hj) (bhV_len G S M H)).symm⟩)

set_option maxHeartbeats 1000000 in
set_option maxRecDepth 100000 in
theorem c_X7_winningMoves {l : Launch} (hfl : l.flags = flags0) (D : va_G) (g : GT) (z : ZT) (ad : Nat → Nat) (th : Int) (cC : CT) (cT : TT) (cL : LT) (cP : PT) (H : List Nat) (G S M Nn : Nat) (c3 : C3) (hT : tabS cT) (hH : okH H) (hG : 1 ≤ G ∧ G ≤ 5) (hS : S ≤ 1) (hM : M ≤ 1) (hN : Nn ≤ 1) (hst : stM cC.1 H G S M Nn c3) : CI l yX7_winningMoves wsX7_winningMoves 8 182 0 D g z [.ref (ad 0)] (moC g ad th cC cT cL cP) (fun (r9 : Int32) (u9 : TT × NF × NF × NF × NF × NF × Int) => tabT G S M u9.1 ∧ r9 = iI (((wcF (bhV G S M H) Nn (mvL G S M H).length) : Nat) : Int)) (fun (u9 : TT × NF × NF × NF × NF × NF × Int) => moC g ad 0 cC (u9.1.1, u9.1.2.1, u9.1.2.2.1, u9.1.2.2.2.1, u9.1.2.2.2.2.1, u9.1.2.2.2.2.2.1, u9.1.2.2.2.2.2.2.1, u9.1.2.2.2.2.2.2.2) (u9.2.1, ((H.length : Nat) : Int), u9.2.2.1, u9.2.2.2.1, u9.2.2.2.2.1, (((mvL G S M H).length : Nat) : Int), u9.2.2.2.2.2.1, u9.2.2.2.2.2.2) cP) 0 0 := by
  refine CI_of hfl (own := RX7) ⟨7, 0, 0, 162⟩ 8 182 0 (by decide +kernel) rfl rfl ⟨by decide, by decide, by decide +kernel⟩ ⟨by decide, by decide⟩ (le_ble rfl) (fun _ _ _ => rfl) ?_
  intro p e s m below meth c A Q F ret
  change J p l e _ s m _ below meth c A D _ Q 0 0 (moC g ad th cC cT cL cP) [(0, .ref (ad 0))] [] 0
  have hlen := okH_len hH
  refine j_aload_n F dX7_winningMoves_0 rfl 0 rfl ?_
  refine j_aload_n F dX7_winningMoves_1 rfl 0 rfl ?_
  refine j_iconst F dX7_winningMoves_2 ?_
  refine j_callV_I F (As := [.int (iI 0)]) (wr := []) (st := [.ref (ad 0)]) (c_X7_winning_0 hfl D g z ad th cC cT cL cP H G S M Nn c3 hT hH hG hS hM hN hst) (idx := 170) (C := RX7) gX7_winningMoves_X7_winning rfl rfl [0, 1, 2, 3, 4, 5, 6, 7, 8, 9, 10, 11, 12, 13, 14] [] rfl rfl (by decide) (by decide) (by decide) (ci := 7) (q0 := 0) rfl rfl (by decide) (by decide) (le_ble rfl) ⟨by decide, by decide⟩ dX7_winningMoves_3 ?_
  rintro r9 u9 ⟨⟨h7, h6, h5⟩, h9⟩
  subst h9
  refine J.wsEq (ws2 := moC g ad th cC (u9.1.1, u9.1.2.1, u9.1.2.2.1, u9.1.2.2.2.1, u9.1.2.2.2.2.1, u9.1.2.2.2.2.2.1, u9.1.2.2.2.2.2.2.1, u9.1.2.2.2.2.2.2.2) (u9.2.1, ((H.length : Nat) : Int), u9.2.2.1, u9.2.2.2.1, u9.2.2.2.2.1, (((mvL G S M H).length : Nat) : Int), u9.2.2.2.2.2.1, u9.2.2.2.2.2.2) cP) rfl ?_
  refine j_callV_I F (As := [.int (iI (((wcF (bhV G S M H) Nn (mvL G S M H).length) : Nat) : Int))]) (wr := []) (st := []) (c_X7_tells hfl D g z ad th cC u9.1 (u9.2.1, ((H.length : Nat) : Int), u9.2.2.1, u9.2.2.2.1, u9.2.2.2.2.1, (((mvL G S M H).length : Nat) : Int), u9.2.2.2.2.2.1, u9.2.2.2.2.2.2) cP (((wcF (bhV G S M H) Nn (mvL G S M H).length) : Nat) : Int)) (idx := 148) (C := RX7) gX7_winningMoves_X7_tells rfl rfl [0, 1, 2, 3, 4, 5, 6, 7, 8, 9, 10, 11, 12, 13, 14] [] rfl rfl (by decide) (by decide) (by decide) (ci := 7) (q0 := 0) rfl rfl (by decide) (by decide) (le_ble rfl) ⟨by decide, by decide⟩ dX7_winningMoves_6 ?_
  rintro r2 u2 h2
  subst h2
  refine J.wsEq (ws2 := moC g ad 0 cC (u9.1.1, u9.1.2.1, u9.1.2.2.1, u9.1.2.2.2.1, u9.1.2.2.2.2.1, u9.1.2.2.2.2.2.1, u9.1.2.2.2.2.2.2.1, u9.1.2.2.2.2.2.2.2) (u9.2.1, ((H.length : Nat) : Int), u9.2.2.1, u9.2.2.2.1, u9.2.2.2.2.1, (((mvL G S M H).length : Nat) : Int), u9.2.2.2.2.2.1, u9.2.2.2.2.2.2) cP) rfl ?_
  exact ret _ u9 0 0 _ _ dX7_winningMoves_9 (by decide) (by decide) (⟨h7, rfl⟩)

set_option maxHeartbeats 1000000 in
set_option maxRecDepth 100000 in
theorem c_X7_winningShare {l : Launch} (hfl : l.flags = flags0) (D : va_G) (g : GT) (z : ZT) (ad : Nat → Nat) (th : Int) (cC : CT) (cT : TT) (cL : LT) (cP : PT) (H : List Nat) (G S M Nn : Nat) (c3 : C3) (hT : tabS cT) (hH : okH H) (hG : 1 ≤ G ∧ G ≤ 5) (hS : S ≤ 1) (hM : M ≤ 1) (hN : Nn ≤ 1) (hst : stM cC.1 H G S M Nn c3) : CD l yX7_winningShare wsX7_winningShare 8 183 0 D g z [.ref (ad 0)] (moC g ad th cC cT cL cP) (fun (r9 : UInt64) (u9 : TT × NF × NF × NF × NF × NF × Int) => tabT G S M u9.1 ∧ r9 = shD (wcF (bhV G S M H) Nn (mvL G S M H).length) (mvL G S M H).length) (fun (u9 : TT × NF × NF × NF × NF × NF × Int) => moC g ad 0 cC (u9.1.1, u9.1.2.1, u9.1.2.2.1, u9.1.2.2.2.1, u9.1.2.2.2.2.1, u9.1.2.2.2.2.2.1, u9.1.2.2.2.2.2.2.1, u9.1.2.2.2.2.2.2.2) (u9.2.1, ((H.length : Nat) : Int), u9.2.2.1, u9.2.2.2.1, u9.2.2.2.2.1, (((mvL G S M H).length : Nat) : Int), u9.2.2.2.2.2.1, u9.2.2.2.2.2.2) cP) 0 0 := by
  refine CD_of hfl (own := RX7) ⟨7, 0, 0, 162⟩ 8 183 0 (by decide +kernel) rfl rfl ⟨by decide, by decide, by decide +kernel⟩ ⟨by decide, by decide⟩ (le_ble rfl) ?_
  intro p e s m below meth c A Q F ret
  change J p l e _ s m _ below meth c A D _ Q 0 0 (moC g ad th cC cT cL cP) [(0, .ref (ad 0))] [] 0
  have hlen := okH_len hH
  have hl84 := mvL_len (g := G) (sp := S) (mg := M) hH
  have hwl := wcF_le (bhV G S M H) Nn (mvL G S M H).length
  refine j_aload_n F dX7_winningShare_0 rfl 0 rfl ?_
  refine j_iconst F dX7_winningShare_1 ?_
  refine j_putf F (ref := "CairnGameModel") (C := RX7) (T := TX7) (N := 27) (ci := 7) (index := 60) (ty := .int) (ws' := moC g ad 0 cC cT cL cP) (fun w h => (List.mem_cons_of_mem _ (List.mem_append_right _ h))) tyX7 tyX7_ok nmX7 0 rfl rfl 0 (by decide) (List.mem_cons_of_mem _ (List.mem_append_left _ (List.mem_append_left _ (List.mem_of_getElem? (l := wsX7_winningShare_r1) (i := 0) rfl)))) rfl rfl rfl rfl rfl (lt_ble rfl) rfl dX7_winningShare_2 ?_
  refine j_aload_n F dX7_winningShare_5 rfl 0 rfl ?_
  refine j_iconst F dX7_winningShare_6 ?_
  refine j_callV_I F (As := [.int (iI 0)]) (wr := []) (st := []) (c_X7_winning_0 hfl D g z ad 0 cC cT cL cP H G S M Nn c3 hT hH hG hS hM hN hst) (idx := 170) (C := RX7) gX7_winningShare_X7_winning rfl rfl [0, 1, 2, 3, 4, 5, 6, 7, 8, 9, 10, 11, 12, 13, 14] [] rfl rfl (by decide) (by decide) (by decide) (ci := 7) (q0 := 0) rfl rfl (by decide) (by decide) (le_ble rfl) ⟨by decide, by decide⟩ dX7_winningShare_7 ?_
  rintro r9 u9 ⟨⟨h7, h6, h5⟩, h9⟩
  subst h9
  refine J.wsEq (ws2 := moC g ad 0 cC (u9.1.1, u9.1.2.1, u9.1.2.2.1, u9.1.2.2.2.1, u9.1.2.2.2.2.1, u9.1.2.2.2.2.2.1, u9.1.2.2.2.2.2.2.1, u9.1.2.2.2.2.2.2.2) (u9.2.1, ((H.length : Nat) : Int), u9.2.2.1, u9.2.2.2.1, u9.2.2.2.2.1, (((mvL G S M H).length : Nat) : Int), u9.2.2.2.2.2.1, u9.2.2.2.2.2.2) cP) rfl ?_
  refine j_istore_n F (lv' := [(1, .int (iI (((wcF (bhV G S M H) Nn (mvL G S M H).length) : Nat) : Int))), (0, .ref (ad 0))]) dX7_winningShare_10 rfl (by decide) rfl ?_
  refine j_aload_n F dX7_winningShare_11 rfl 1 rfl ?_
  refine j_getf F (ref := "CairnGameModel") (C := RX7) (T := TX7) (N := 27) (ci := 7) (index := 76) (v := .int (iI (((mvL G S M H).length : Nat) : Int))) (fun w h => (List.mem_cons_of_mem _ (List.mem_append_right _ h))) 0 rfl rfl 19 (by decide) (List.mem_cons_of_mem _ (List.mem_append_left _ (List.mem_append_left _ (List.mem_of_getElem? (l := wsX7_winningShare_r1) (i := 1) rfl)))) rfl rfl dX7_winningShare_12 ?_
  refine j_if_ne F (tgt := 22) dX7_winningShare_15 (by decide) (by unfold rg; omega) (fun c15 => ?_) (fun c15 => ?_)
  · refine j_iload_n F dX7_winningShare_22 rfl 0 rfl ?_
    refine j_i2d F dX7_winningShare_23 ?_
    refine j_aload_n F dX7_winningShare_24 rfl 1 rfl ?_
    refine j_getf F (ref := "CairnGameModel") (C := RX7) (T := TX7) (N := 27) (ci := 7) (index := 76) (v := .int (iI (((mvL G S M H).length : Nat) : Int))) (fun w h => (List.mem_cons_of_mem _ (List.mem_append_right _ h))) 0 rfl rfl 19 (by decide) (List.mem_cons_of_mem _ (List.mem_append_left _ (List.mem_append_left _ (List.mem_of_getElem? (l := wsX7_winningShare_r1) (i := 1) rfl)))) rfl rfl dX7_winningShare_25 ?_
    refine j_i2d F dX7_winningShare_28 ?_
    refine j_ddiv F (dv1 (by omega) (by omega) (by omega)) dX7_winningShare_29 ?_
    exact ret _ u9 0 0 _ _ dX7_winningShare_30 (by decide) (by decide) (⟨h7, by unfold shD; rw [if_neg (by omega)]⟩)
  · refine j_dconst0 F dX7_winningShare_18 ?_
    refine j_goto F (tgt := 30) dX7_winningShare_19 (by decide) ?_
    exact ret _ u9 0 0 _ _ dX7_winningShare_30 (by decide) (by decide) (⟨h7, by unfold shD; rw [if_pos (by omega)]⟩)

set_option maxHeartbeats 1000000 in
set_option maxRecDepth 100000 in
theorem c_X7_reply {l : Launch} (hfl : l.flags = flags0) (D : va_G) (g : GT) (z : ZT) (ad : Nat → Nat) (th : Int) (cC : CT) (cT : TT) (cL : LT) (cP : PT) (H : List Nat) (G S M Nn : Nat) (c3 : C3) (hT : tabS cT) (hH : okH H) (hG : 1 ≤ G ∧ G ≤ 5) (hS : S ≤ 1) (hM : M ≤ 1) (hN : Nn ≤ 1) (hst : stM cC.1 H G S M Nn c3) : CI l yX7_reply wsX7_reply 8 187 0 D g z [.ref (ad 0)] (moC g ad th cC cT cL cP) (fun (r9 : Int32) (u9 : TT × NF × NF × NF × NF × NF × Int) => (tabT G S M u9.1 ∧ rep u9.2.1 H ∧ mrep3 (mvL G S M H) u9.2.2.1 u9.2.2.2.1 u9.2.2.2.2.1) ∧ r9 = iI (brF (bhV G S M H) Nn)) (fun (u9 : TT × NF × NF × NF × NF × NF × Int) => moC g ad th cC (u9.1.1, u9.1.2.1, u9.1.2.2.1, u9.1.2.2.2.1, u9.1.2.2.2.2.1, u9.1.2.2.2.2.2.1, u9.1.2.2.2.2.2.2.1, u9.1.2.2.2.2.2.2.2) (u9.2.1, ((H.length : Nat) : Int), u9.2.2.1, u9.2.2.2.1, u9.2.2.2.2.1, (((mvL G S M H).length : Nat) : Int), u9.2.2.2.2.2.1, u9.2.2.2.2.2.2) cP) 0 0 := by
  refine CI_of hfl (own := RX7) ⟨7, 0, 0, 162⟩ 8 187 0 (by decide +kernel) rfl rfl ⟨by decide, by decide, by decide +kernel⟩ ⟨by decide, by decide⟩ (le_ble rfl) (fun _ _ _ => rfl) ?_
  intro p e s m below meth c A Q F ret
  change J p l e _ s m _ below meth c A D _ Q 0 0 (moC g ad th cC cT cL cP) [(0, .ref (ad 0))] [] 0
  have hlen := okH_len hH
  have hl84 := mvL_len (g := G) (sp := S) (mg := M) hH
  have hfwb := fwF_b (bhV G S M H) Nn (mvL G S M H).length
  refine j_aload_n F dX7_reply_0 rfl 0 rfl ?_
  refine j_iconst F dX7_reply_1 ?_
  refine j_callV_I F (As := [.int (iI 1)]) (wr := []) (st := []) (c_X7_winning_1 hfl D g z ad th cC cT cL cP H G S M Nn c3 hT hH hG hS hM hN hst) (idx := 170) (C := RX7) gX7_reply_X7_winning rfl rfl [0, 1, 2, 3, 4, 5, 6, 7, 8, 9, 10, 11, 12, 13, 14] [] rfl rfl (by decide) (by decide) (by decide) (ci := 7) (q0 := 0) rfl rfl (by decide) (by decide) (le_ble rfl) ⟨by decide, by decide⟩ dX7_reply_2 ?_
  rintro r9 u9 ⟨⟨h7, h6, h5⟩, h9⟩
  subst h9
  refine J.wsEq (ws2 := moC g ad th cC (u9.1.1, u9.1.2.1, u9.1.2.2.1, u9.1.2.2.2.1, u9.1.2.2.2.2.1, u9.1.2.2.2.2.2.1, u9.1.2.2.2.2.2.2.1, u9.1.2.2.2.2.2.2.2) (u9.2.1, ((H.length : Nat) : Int), u9.2.2.1, u9.2.2.2.1, u9.2.2.2.2.1, (((mvL G S M H).length : Nat) : Int), u9.2.2.2.2.2.1, u9.2.2.2.2.2.2) cP) rfl ?_
  refine j_istore_n F (lv' := [(1, .int (iI (fwF (bhV G S M H) Nn (mvL G S M H).length))), (0, .ref (ad 0))]) dX7_reply_5 rfl (by decide) rfl ?_
  refine j_iconst F dX7_reply_6 ?_
  refine j_istore_n F (lv' := [(2, .int (iI (-1))), (1, .int (iI (fwF (bhV G S M H) Nn (mvL G S M H).length))), (0, .ref (ad 0))]) dX7_reply_7 rfl (by decide) rfl ?_
  refine j_iload_n F dX7_reply_8 rfl 1 rfl ?_
  refine j_iconst F dX7_reply_9 ?_
  refine j_icmp_eq F (tgt := 17) dX7_reply_10 (by decide) ⟨(by unfold rg; omega), (by unfold rg; omega)⟩ (fun c10 => ?_) (fun c10 => ?_)
  · have hfw : (fwF (bhV G S M H) Nn (mvL G S M H).length) = -1 := by omega
    refine j_iconst F dX7_reply_17 ?_
    refine j_istore_n F (lv' := [(3, .int (iI 0)), (2, .int (iI (-1))), (1, .int (iI (fwF (bhV G S M H) Nn (mvL G S M H).length))), (0, .ref (ad 0))]) dX7_reply_18 rfl (by decide) rfl ?_
    refine j_iconst F dX7_reply_19 ?_
    refine J.lvEq (lv2 := [(3, .int (iI 0)), (2, .int (iI ((lmF (bhV G S M H) 0).2))), (1, .int (iI ((lmF (bhV G S M H) 0).1))), (0, .ref (ad 0))]) (by first | (rw [hfw]; rfl) | (dsimp only; rw [hfw]; rfl)) ?_
    refine j_istore F (lv' := [(4, .int (iI 0)), (3, .int (iI 0)), (2, .int (iI ((lmF (bhV G S M H) 0).2))), (1, .int (iI ((lmF (bhV G S M H) 0).1))), (0, .ref (ad 0))]) dX7_reply_20 (by decide) rfl ?_
    refine J.loc [0, 1, 2, 3, 4] rfl ?_
    refine J_loop (σ := Nat × NF × Int) (fun x9 : Nat × NF × Int => match x9 with | (j, bf, nb) => j ≤ (mvL G S M H).length) (fun x9 : Nat × NF × Int => match x9 with | (j, bf, nb) => (mvL G S M H).length - j) (fun x9 : Nat × NF × Int => match x9 with | (j, bf, nb) => moC g ad th cC (u9.1.1, u9.1.2.1, u9.1.2.2.1, u9.1.2.2.2.1, u9.1.2.2.2.2.1, u9.1.2.2.2.2.2.1, u9.1.2.2.2.2.2.2.1, u9.1.2.2.2.2.2.2.2) (u9.2.1, ((H.length : Nat) : Int), u9.2.2.1, u9.2.2.2.1, u9.2.2.2.2.1, (((mvL G S M H).length : Nat) : Int), bf, nb) cP) (fun x9 : Nat × NF × Int => match x9 with | (j, bf, nb) => [(4, .int (iI (j : Int))), (3, .int (iI 0)), (2, .int (iI ((lmF (bhV G S M H) j).2))), (1, .int (iI ((lmF (bhV G S M H) j).1))), (0, .ref (ad 0))]) (0, u9.2.2.2.2.2.1, u9.2.2.2.2.2.2) (by show 0 ≤ (mvL G S M H).length; exact Nat.zero_le _) ?_
    rintro ⟨j, bf, nb⟩ hI ih22
    have hI : j ≤ (mvL G S M H).length := hI
    have hlb := lmF_b (vs := bhV G S M H) (fun v hv => (bhV_b hH v hv).2.2.1) j (by rw [← bhV_len]; exact hI)
    refine j_iload F dX7_reply_22 0 rfl ?_
    refine j_aload_n F dX7_reply_24 rfl 4 rfl ?_
    refine j_getf F (ref := "CairnGameModel") (C := RX7) (T := TX7) (N := 27) (ci := 7) (index := 76) (v := .int (iI (((mvL G S M H).length : Nat) : Int))) (fun w h => (List.mem_cons_of_mem _ (List.mem_append_right _ h))) 0 rfl rfl 19 (by decide) (List.mem_cons_of_mem _ (List.mem_append_left _ (List.mem_append_left _ (List.mem_of_getElem? (l := wsX7_reply_r1) (i := 0) rfl)))) rfl rfl dX7_reply_25 ?_
    refine j_icmp_ge F (tgt := 80) dX7_reply_28 (by decide) ⟨(by unfold rg; omega), (by unfold rg; omega)⟩ (fun c28 => ?_) (fun c28 => ?_)
    · have ej : j = (mvL G S M H).length := by omega
      have eb : brF (bhV G S M H) Nn = (lmF (bhV G S M H) j).1 := by unfold brF; rw [← bhV_len, if_pos hfw, ej]
      refine j_iload_n F dX7_reply_80 rfl 3 rfl ?_
      exact ret _ (u9.1, u9.2.1, u9.2.2.1, u9.2.2.2.1, u9.2.2.2.2.1, bf, nb) 0 0 _ _ dX7_reply_81 (by decide) (by decide) (⟨⟨h7, h6, h5⟩, by rw [eb]⟩)
    · refine j_iload_n F dX7_reply_31 rfl 1 rfl ?_
      refine j_if_ne F (tgt := 80) dX7_reply_32 (by decide) (by unfold rg; omega) (fun h9 => by exfalso; omega) (fun c32 => ?_)
      refine j_aload_n F dX7_reply_35 rfl 4 rfl ?_
      refine j_getf F (ref := "CairnGameModel") (C := RX7) (T := TX7) (N := 27) (ci := 7) (index := 31) (v := .ref (ad 11)) (fun w h => (List.mem_cons_of_mem _ (List.mem_append_right _ h))) 0 rfl rfl 11 (by decide) (List.mem_cons_of_mem _ (List.mem_append_left _ (List.mem_append_left _ (List.mem_of_getElem? (l := wsX7_reply_r1) (i := 1) rfl)))) rfl rfl dX7_reply_36 ?_
      have hj : j < (mvL G S M H).length := by omega
      have hvb := getD_bhV hj hH
      refine j_aload_n F dX7_reply_39 rfl 4 rfl ?_
      refine j_iload F dX7_reply_40 0 rfl ?_
      refine j_callV_I F (As := [.int (iI (j : Int))]) (wr := []) (st := [.ref (ad 11)]) (c_X7_positionBehind hfl D g z ad th cC u9.1 cP H G S M u9.2.1 u9.2.2.1 u9.2.2.2.1 u9.2.2.2.2.1 bf nb j hH h7.1 h6 h5 hj) (idx := 100) (C := RX7) gX7_reply_X7_positionBehind rfl rfl [0, 1, 2, 3, 4, 5, 6, 7, 8, 9, 10, 11, 12, 13, 14] [] rfl rfl (by decide) (by decide) (by decide) (ci := 7) (q0 := 0) rfl rfl (by decide) (by decide) (le_ble rfl) ⟨by decide, by decide⟩ dX7_reply_42 ?_
      rintro r4 u7 ⟨h8, q7, e7, b7, n7⟩
      subst h8
      obtain ⟨t1, t2, t3, t4⟩ := tab_p h7.2.2 q7 e7
      rw [← bhV_at hj] at t3
      refine J.wsEq (ws2 := moC g ad th cC (u9.1.1, u9.1.2.1, u9.1.2.2.1, u9.1.2.2.2.1, u9.1.2.2.2.2.1, u9.1.2.2.2.2.2.1, u9.1.2.2.2.2.2.2.1, u9.1.2.2.2.2.2.2.2) (u9.2.1, ((H.length : Nat) : Int), u9.2.2.1, u9.2.2.2.1, u9.2.2.2.2.1, (((mvL G S M H).length : Nat) : Int), u7.1, u7.2.1) cP) rfl ?_
      refine j_iald F 8 (n := 272) (f := u9.1.2.2.2.2.2.1) rfl u7.2.2 (by omega) (by omega) (by decide) dX7_reply_45 ?_
      refine J.top (congrArg iI (show u9.1.2.2.2.2.2.1 u7.2.2 = ((((bhV G S M H).getD j v0).2.2.1 : Nat) : Int) from t3)) ?_
      refine j_istore F (lv' := [(5, .int (iI ((((bhV G S M H).getD j v0).2.2.1 : Nat) : Int))), (4, .int (iI (j : Int))), (3, .int (iI 0)), (2, .int (iI ((lmF (bhV G S M H) j).2))), (1, .int (iI ((lmF (bhV G S M H) j).1))), (0, .ref (ad 0))]) dX7_reply_46 (by decide) rfl ?_
      refine j_iload F dX7_reply_48 0 rfl ?_
      refine j_iload_n F dX7_reply_50 rfl 3 rfl ?_
      refine j_icmp_le F (tgt := 59) dX7_reply_51 (by decide) ⟨(by unfold rg; omega), (by unfold rg; omega)⟩ (fun c51 => ?_) (fun c51 => ?_)
      · refine j_iload_n F dX7_reply_59 rfl 4 rfl ?_
        refine j_istore_n F (lv' := [(1, .int (iI ((lmF (bhV G S M H) j).1))), (5, .int (iI ((((bhV G S M H).getD j v0).2.2.1 : Nat) : Int))), (4, .int (iI (j : Int))), (3, .int (iI 0)), (2, .int (iI ((lmF (bhV G S M H) j).2))), (0, .ref (ad 0))]) dX7_reply_60 rfl (by decide) rfl ?_
        refine j_iload F dX7_reply_61 1 rfl ?_
        refine j_iload_n F dX7_reply_63 rfl 4 rfl ?_
        refine j_icmp_le F (tgt := 72) dX7_reply_64 (by decide) ⟨(by unfold rg; omega), (by unfold rg; omega)⟩ (fun c64 => ?_) (fun h9 => by exfalso; omega)
        refine j_iload_n F dX7_reply_72 rfl 4 rfl ?_
        refine j_istore_n F (lv' := [(2, .int (iI ((lmF (bhV G S M H) j).2))), (1, .int (iI ((lmF (bhV G S M H) j).1))), (5, .int (iI ((((bhV G S M H).getD j v0).2.2.1 : Nat) : Int))), (4, .int (iI (j : Int))), (3, .int (iI 0)), (0, .ref (ad 0))]) dX7_reply_73 rfl (by decide) rfl ?_
        refine J.lvEq (lv2 := [(2, .int (iI ((lmF (bhV G S M H) (j + 1)).2))), (1, .int (iI ((lmF (bhV G S M H) (j + 1)).1))), (5, .int (iI ((((bhV G S M H).getD j v0).2.2.1 : Nat) : Int))), (4, .int (iI (j : Int))), (3, .int (iI 0)), (0, .ref (ad 0))]) (by first | (rw [lm_no (by omega)]) | (dsimp only; rw [lm_no (by omega)])) ?_
        refine j_iinc F (lv' := [(4, .int (iI ((j : Int) + 1))), (2, .int (iI ((lmF (bhV G S M H) (j + 1)).2))), (1, .int (iI ((lmF (bhV G S M H) (j + 1)).1))), (5, .int (iI ((((bhV G S M H).getD j v0).2.2.1 : Nat) : Int))), (3, .int (iI 0)), (0, .ref (ad 0))]) dX7_reply_74 3 rfl (by decide) rfl ?_
        refine j_goto F (tgt := 22) dX7_reply_77 (by decide) ?_
        refine J.loc [0, 4, 1, 2, 5] rfl ?_
        exact ih22 ((j + 1), u7.1, u7.2.1) (by show (j + 1) ≤ (mvL G S M H).length; omega) (by show (mvL G S M H).length - (j + 1) < (mvL G S M H).length - j; omega)
      · refine j_iload F dX7_reply_54 1 rfl ?_
        refine j_goto F (tgt := 60) dX7_reply_56 (by decide) ?_
        refine j_istore_n F (lv' := [(1, .int (iI (j : Int))), (5, .int (iI ((((bhV G S M H).getD j v0).2.2.1 : Nat) : Int))), (4, .int (iI (j : Int))), (3, .int (iI 0)), (2, .int (iI ((lmF (bhV G S M H) j).2))), (0, .ref (ad 0))]) dX7_reply_60 rfl (by decide) rfl ?_
        refine j_iload F dX7_reply_61 1 rfl ?_
        refine j_iload_n F dX7_reply_63 rfl 4 rfl ?_
        refine j_icmp_le F (tgt := 72) dX7_reply_64 (by decide) ⟨(by unfold rg; omega), (by unfold rg; omega)⟩ (fun h9 => by exfalso; omega) (fun c64 => ?_)
        refine j_iload F dX7_reply_67 1 rfl ?_
        refine j_goto F (tgt := 73) dX7_reply_69 (by decide) ?_
        refine j_istore_n F (lv' := [(2, .int (iI ((((bhV G S M H).getD j v0).2.2.1 : Nat) : Int))), (1, .int (iI (j : Int))), (5, .int (iI ((((bhV G S M H).getD j v0).2.2.1 : Nat) : Int))), (4, .int (iI (j : Int))), (3, .int (iI 0)), (0, .ref (ad 0))]) dX7_reply_73 rfl (by decide) rfl ?_
        refine J.lvEq (lv2 := [(2, .int (iI ((lmF (bhV G S M H) (j + 1)).2))), (1, .int (iI ((lmF (bhV G S M H) (j + 1)).1))), (5, .int (iI ((((bhV G S M H).getD j v0).2.2.1 : Nat) : Int))), (4, .int (iI (j : Int))), (3, .int (iI 0)), (0, .ref (ad 0))]) (by first | (rw [lm_yes (by omega)]) | (dsimp only; rw [lm_yes (by omega)])) ?_
        refine j_iinc F (lv' := [(4, .int (iI ((j : Int) + 1))), (2, .int (iI ((lmF (bhV G S M H) (j + 1)).2))), (1, .int (iI ((lmF (bhV G S M H) (j + 1)).1))), (5, .int (iI ((((bhV G S M H).getD j v0).2.2.1 : Nat) : Int))), (3, .int (iI 0)), (0, .ref (ad 0))]) dX7_reply_74 3 rfl (by decide) rfl ?_
        refine j_goto F (tgt := 22) dX7_reply_77 (by decide) ?_
        refine J.loc [0, 4, 1, 2, 5] rfl ?_
        exact ih22 ((j + 1), u7.1, u7.2.1) (by show (j + 1) ≤ (mvL G S M H).length; omega) (by show (mvL G S M H).length - (j + 1) < (mvL G S M H).length - j; omega)
  · have eb : brF (bhV G S M H) Nn = (fwF (bhV G S M H) Nn (mvL G S M H).length) := by unfold brF; rw [← bhV_len, if_neg (by omega)]
    refine j_iconst F dX7_reply_13 ?_
    refine j_goto F (tgt := 18) dX7_reply_14 (by decide) ?_
    refine j_istore_n F (lv' := [(3, .int (iI 1)), (2, .int (iI (-1))), (1, .int (iI (fwF (bhV G S M H) Nn (mvL G S M H).length))), (0, .ref (ad 0))]) dX7_reply_18 rfl (by decide) rfl ?_
    refine j_iconst F dX7_reply_19 ?_
    refine j_istore F (lv' := [(4, .int (iI 0)), (3, .int (iI 1)), (2, .int (iI (-1))), (1, .int (iI (fwF (bhV G S M H) Nn (mvL G S M H).length))), (0, .ref (ad 0))]) dX7_reply_20 (by decide) rfl ?_
    refine j_iload F dX7_reply_22 0 rfl ?_
    refine j_aload_n F dX7_reply_24 rfl 4 rfl ?_
    refine j_getf F (ref := "CairnGameModel") (C := RX7) (T := TX7) (N := 27) (ci := 7) (index := 76) (v := .int (iI (((mvL G S M H).length : Nat) : Int))) (fun w h => (List.mem_cons_of_mem _ (List.mem_append_right _ h))) 0 rfl rfl 19 (by decide) (List.mem_cons_of_mem _ (List.mem_append_left _ (List.mem_append_left _ (List.mem_of_getElem? (l := wsX7_reply_r1) (i := 0) rfl)))) rfl rfl dX7_reply_25 ?_
    refine j_icmp_ge F (tgt := 80) dX7_reply_28 (by decide) ⟨(by unfold rg; omega), (by unfold rg; omega)⟩ (fun c28 => ?_) (fun c28 => ?_)
    · refine j_iload_n F dX7_reply_80 rfl 3 rfl ?_
      exact ret _ u9 0 0 _ _ dX7_reply_81 (by decide) (by decide) (⟨⟨h7, h6, h5⟩, by rw [eb]⟩)
    · refine j_iload_n F dX7_reply_31 rfl 1 rfl ?_
      refine j_if_ne F (tgt := 80) dX7_reply_32 (by decide) (by unfold rg; omega) (fun c32 => ?_) (fun h9 => by exfalso; omega)
      refine j_iload_n F dX7_reply_80 rfl 3 rfl ?_
      exact ret _ u9 0 0 _ _ dX7_reply_81 (by decide) (by decide) (⟨⟨h7, h6, h5⟩, by rw [eb]⟩)

set_option maxHeartbeats 1000000 in
set_option maxRecDepth 100000 in
theorem c_X7_bestReply {l : Launch} (hfl : l.flags = flags0) (D : va_G) (g : GT) (z : ZT) (ad : Nat → Nat) (th : Int) (cC : CT) (cT : TT) (cL : LT) (cP : PT) (H : List Nat) (G S M Nn : Nat) (c3 : C3) (hT : tabS cT) (hH : okH H) (hG : 1 ≤ G ∧ G ≤ 5) (hS : S ≤ 1) (hM : M ≤ 1) (hN : Nn ≤ 1) (hst : stM cC.1 H G S M Nn c3) : CI l yX7_bestReply wsX7_bestReply 9 207 0 D g z [.ref (ad 0)] (moC g ad th cC cT cL cP) (fun (r9 : Int32) (u9 : TT × NF × NF × NF × NF × NF × Int) => tabT G S M u9.1 ∧ r9 = iI (brF (bhV G S M H) Nn)) (fun (u9 : TT × NF × NF × NF × NF × NF × Int) => moC g ad 0 cC (u9.1.1, u9.1.2.1, u9.1.2.2.1, u9.1.2.2.2.1, u9.1.2.2.2.2.1, u9.1.2.2.2.2.2.1, u9.1.2.2.2.2.2.2.1, u9.1.2.2.2.2.2.2.2) (u9.2.1, ((H.length : Nat) : Int), u9.2.2.1, u9.2.2.2.1, u9.2.2.2.2.1, (((mvL G S M H).length : Nat) : Int), u9.2.2.2.2.2.1, u9.2.2.2.2.2.2) cP) 0 0 := by
  refine CI_of hfl (own := RX7) ⟨8, 0, 0, 187⟩ 9 207 0 (by decide +kernel) rfl rfl ⟨by decide, by decide, by decide +kernel⟩ ⟨by decide, by decide⟩ (le_ble rfl) (fun _ _ _ => rfl) ?_
  intro p e s m below meth c A Q F ret
  change J p l e _ s m _ below meth c A D _ Q 0 0 (moC g ad th cC cT cL cP) [(0, .ref (ad 0))] [] 0
  have hlen := okH_len hH
  refine j_aload_n F dX7_bestReply_0 rfl 0 rfl ?_
  refine j_aload_n F dX7_bestReply_1 rfl 0 rfl ?_
  refine j_callV_I F (As := []) (wr := []) (st := [.ref (ad 0)]) (c_X7_reply hfl D g z ad th cC cT cL cP H G S M Nn c3 hT hH hG hS hM hN hst) (idx := 174) (C := RX7) gX7_bestReply_X7_reply rfl rfl [0, 1, 2, 3, 4, 5, 6, 7, 8, 9, 10, 11, 12, 13, 14] [] rfl rfl (by decide) (by decide) (by decide) (ci := 7) (q0 := 0) rfl rfl (by decide) (by decide) (le_ble rfl) ⟨by decide, by decide⟩ dX7_bestReply_2 ?_
  rintro r9 u9 ⟨⟨h7, h6, h5⟩, h9⟩
  subst h9
  refine J.wsEq (ws2 := moC g ad th cC (u9.1.1, u9.1.2.1, u9.1.2.2.1, u9.1.2.2.2.1, u9.1.2.2.2.2.1, u9.1.2.2.2.2.2.1, u9.1.2.2.2.2.2.2.1, u9.1.2.2.2.2.2.2.2) (u9.2.1, ((H.length : Nat) : Int), u9.2.2.1, u9.2.2.2.1, u9.2.2.2.2.1, (((mvL G S M H).length : Nat) : Int), u9.2.2.2.2.2.1, u9.2.2.2.2.2.2) cP) rfl ?_
  refine j_callV_I F (As := [.int (iI (brF (bhV G S M H) Nn))]) (wr := []) (st := []) (c_X7_tells hfl D g z ad th cC u9.1 (u9.2.1, ((H.length : Nat) : Int), u9.2.2.1, u9.2.2.2.1, u9.2.2.2.2.1, (((mvL G S M H).length : Nat) : Int), u9.2.2.2.2.2.1, u9.2.2.2.2.2.2) cP (brF (bhV G S M H) Nn)) (idx := 148) (C := RX7) gX7_bestReply_X7_tells rfl rfl [0, 1, 2, 3, 4, 5, 6, 7, 8, 9, 10, 11, 12, 13, 14] [] rfl rfl (by decide) (by decide) (by decide) (ci := 7) (q0 := 0) rfl rfl (by decide) (by decide) (le_ble rfl) ⟨by decide, by decide⟩ dX7_bestReply_5 ?_
  rintro r2 u2 h2
  subst h2
  refine J.wsEq (ws2 := moC g ad 0 cC (u9.1.1, u9.1.2.1, u9.1.2.2.1, u9.1.2.2.2.1, u9.1.2.2.2.2.1, u9.1.2.2.2.2.2.1, u9.1.2.2.2.2.2.2.1, u9.1.2.2.2.2.2.2.2) (u9.2.1, ((H.length : Nat) : Int), u9.2.2.1, u9.2.2.2.1, u9.2.2.2.2.1, (((mvL G S M H).length : Nat) : Int), u9.2.2.2.2.2.1, u9.2.2.2.2.2.2) cP) rfl ?_
  exact ret _ u9 0 0 _ _ dX7_bestReply_8 (by decide) (by decide) (⟨h7, rfl⟩)

end X7G