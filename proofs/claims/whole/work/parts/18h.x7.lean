/-! ===== the model: what is told in a text ===== -/
section X7H
theorem sgT_rep {T : List Nat} {f : NF} (hr : rep f T) {t : Nat} (h : t < T.length) : f t = ((sgT T t : Nat) : Int) := by
  rw [sgT_in h]
  exact hr t h
def acN (T : List Nat) (t lo hi : Nat) : Nat := if lo ≤ sgT T t ∧ sgT T t ≤ hi then t + 1 else t
theorem acN_t {T : List Nat} {t lo hi : Nat} (h : lo ≤ sgT T t ∧ sgT T t ≤ hi) : acN T t lo hi = t + 1 := by unfold acN; rw [if_pos h]
theorem acN_f {T : List Nat} {t lo hi : Nat} (h : ¬ (lo ≤ sgT T t ∧ sgT T t ≤ hi)) : acN T t lo hi = t := by unfold acN; rw [if_neg h]

set_option maxHeartbeats 1000000 in
set_option maxRecDepth 100000 in
theorem c_X7_append {l : Launch} (hfl : l.flags = flags0) (D : va_G) (g : GT) (z : ZT) (ad : Nat → Nat) (th : Int) (cC : CT) (cT : TT) (cL : LT) (cP : PT) (T : List Nat) (x : Int) (hT : txOK T) (hx : 33 ≤ x ∧ x ≤ 126) (hl : T.length < 60) : CI l yX7_append wsX7_append 2 43 1 D g z [.ref (ad 0), .int (iI x)] (moC g ad th (cC.1, cC.2.1, cC.2.2.1, cC.2.2.2.1, ((T.length : Nat) : Int)) cT cL cP) (fun (r9 : Int32) (u9 : Unit) => r9 = iI ((T.length : Int) + 1)) (fun (u9 : Unit) => moC g ad 0 (cC.1, cC.2.1, cC.2.2.1, (nup cC.2.2.2.1 T.length x), ((T.length : Int) + 1)) cT cL cP) 0 0 := by
  refine CI_of hfl (own := RX7) ⟨1, 0, 0, 22⟩ 2 43 1 (by decide +kernel) rfl rfl ⟨by decide, by decide, by decide +kernel⟩ ⟨by decide, by decide⟩ (le_ble rfl) (fun _ _ _ => rfl) ?_
  intro p e s m below meth c A Q F ret
  change J p l e _ s m _ below meth c A D _ Q 0 0 (moC g ad th (cC.1, cC.2.1, cC.2.2.1, cC.2.2.2.1, ((T.length : Nat) : Int)) cT cL cP) [(0, .ref (ad 0)), (1, .int (iI x))] [] 0
  refine j_aload_n F dX7_append_0 rfl 0 rfl ?_
  refine j_iload_n F dX7_append_1 rfl 1 rfl ?_
  refine j_bipush F dX7_append_2 (by decide) ?_
  refine j_bipush F dX7_append_4 (by decide) ?_
  refine j_callS_I F (As := [.int (iI x), .int (iI 33), .int (iI 126)]) (wr := moC g ad th (cC.1, cC.2.1, cC.2.2.1, cC.2.2.2.1, ((T.length : Nat) : Int)) cT cL cP) (st := [.ref (ad 0)]) (c_X7_within hfl D g z x 33 126 (by unfold rg; omega) (by unfold rg; omega) (by unfold rg; omega)) (idx := 119) gX7_append_X7_within rfl [] [0, 1, 2, 3, 4, 5, 6, 7, 8, 9, 10, 11, 12, 13, 14] rfl rfl (by decide) (by decide) (by decide)  (by decide) (by decide) (le_ble rfl) ⟨by decide, by decide⟩ dX7_append_6 ?_
  rintro r7 u7 h7
  subst h7
  refine J.wsEq (ws2 := moC g ad th (cC.1, cC.2.1, cC.2.2.1, cC.2.2.2.1, ((T.length : Nat) : Int)) cT cL cP) rfl ?_
  refine j_ifb_ne F (tgt := 16) dX7_append_9 (by decide)  (fun c9 => ?_) (fun h9 => by exfalso; omega)
  refine j_aload_n F dX7_append_16 rfl 0 rfl ?_
  refine j_getf F (ref := "CairnGameModel") (C := RX7) (T := TX7) (N := 27) (ci := 7) (index := 177) (v := .int (iI ((T.length : Nat) : Int))) (fun w h => (List.mem_cons_of_mem _ (List.mem_append_right _ h))) 0 rfl rfl 5 (by decide) (List.mem_cons_of_mem _ (List.mem_append_left _ (List.mem_of_getElem? (i := 0) rfl))) rfl rfl dX7_append_17 ?_
  refine j_bipush F dX7_append_20 (by decide) ?_
  refine j_icmp_ne F (tgt := 29) dX7_append_22 (by decide) ⟨(by unfold rg; omega), (by unfold rg; omega)⟩ (fun c22 => ?_) (fun h9 => by exfalso; omega)
  refine j_iconst F dX7_append_29 ?_
  refine j_putf F (ref := "CairnGameModel") (C := RX7) (T := TX7) (N := 27) (ci := 7) (index := 60) (ty := .int) (ws' := moC g ad 0 (cC.1, cC.2.1, cC.2.2.1, cC.2.2.2.1, ((T.length : Nat) : Int)) cT cL cP) (fun w h => (List.mem_cons_of_mem _ (List.mem_append_right _ h))) tyX7 tyX7_ok nmX7 0 rfl rfl 0 (by decide) (List.mem_cons_of_mem _ (List.mem_append_left _ (List.mem_of_getElem? (i := 1) rfl))) rfl rfl rfl rfl rfl (lt_ble rfl) rfl dX7_append_30 ?_
  refine j_aload_n F dX7_append_33 rfl 0 rfl ?_
  refine j_getf F (ref := "CairnGameModel") (C := RX7) (T := TX7) (N := 27) (ci := 7) (index := 60) (v := .int (iI 0)) (fun w h => (List.mem_cons_of_mem _ (List.mem_append_right _ h))) 0 rfl rfl 0 (by decide) (List.mem_cons_of_mem _ (List.mem_append_left _ (List.mem_of_getElem? (i := 1) rfl))) rfl rfl dX7_append_34 ?_
  refine j_if_le F (tgt := 42) dX7_append_37 (by decide) (by unfold rg; omega) (fun c37 => ?_) (fun h9 => by exfalso; omega)
  refine j_aload_n F dX7_append_42 rfl 0 rfl ?_
  refine j_getf F (ref := "CairnGameModel") (C := RX7) (T := TX7) (N := 27) (ci := 7) (index := 16) (v := .ref (ad 4)) (fun w h => (List.mem_cons_of_mem _ (List.mem_append_right _ h))) 0 rfl rfl 4 (by decide) (List.mem_cons_of_mem _ (List.mem_append_left _ (List.mem_of_getElem? (i := 2) rfl))) rfl rfl dX7_append_43 ?_
  refine j_aload_n F dX7_append_46 rfl 0 rfl ?_
  refine j_getf F (ref := "CairnGameModel") (C := RX7) (T := TX7) (N := 27) (ci := 7) (index := 177) (v := .int (iI ((T.length : Nat) : Int))) (fun w h => (List.mem_cons_of_mem _ (List.mem_append_right _ h))) 0 rfl rfl 5 (by decide) (List.mem_cons_of_mem _ (List.mem_append_left _ (List.mem_of_getElem? (i := 0) rfl))) rfl rfl dX7_append_47 ?_
  refine j_iload_n F dX7_append_50 rfl 1 rfl ?_
  refine j_iast F (ws' := moC g ad 0 (cC.1, cC.2.1, cC.2.2.1, nup cC.2.2.2.1 T.length x, ((T.length : Nat) : Int)) cT cL cP) 3 (n := 60) (f := cC.2.2.2.1) rfl T.length (by omega) (by omega) (by decide) rfl dX7_append_51 ?_
  refine j_aload_n F dX7_append_52 rfl 0 rfl ?_
  refine j_dup F dX7_append_53 rfl ?_
  refine j_getf F (ref := "CairnGameModel") (C := RX7) (T := TX7) (N := 27) (ci := 7) (index := 177) (v := .int (iI ((T.length : Nat) : Int))) (fun w h => (List.mem_cons_of_mem _ (List.mem_append_right _ h))) 0 rfl rfl 5 (by decide) (List.mem_cons_of_mem _ (List.mem_append_left _ (List.mem_of_getElem? (i := 0) rfl))) rfl rfl dX7_append_54 ?_
  refine j_iconst F dX7_append_57 ?_
  refine j_iadd F dX7_append_58 ?_
  refine j_putf F (ref := "CairnGameModel") (C := RX7) (T := TX7) (N := 27) (ci := 7) (index := 177) (ty := .int) (ws' := moC g ad 0 (cC.1, cC.2.1, cC.2.2.1, nup cC.2.2.2.1 T.length x, (((T.length : Nat) : Int) + 1)) cT cL cP) (fun w h => (List.mem_cons_of_mem _ (List.mem_append_right _ h))) tyX7 tyX7_ok nmX7 0 rfl rfl 5 (by decide) (List.mem_cons_of_mem _ (List.mem_append_left _ (List.mem_of_getElem? (i := 0) rfl))) rfl rfl rfl rfl rfl (lt_ble rfl) rfl dX7_append_59 ?_
  refine j_aload_n F dX7_append_62 rfl 0 rfl ?_
  refine j_getf F (ref := "CairnGameModel") (C := RX7) (T := TX7) (N := 27) (ci := 7) (index := 177) (v := .int (iI (((T.length : Nat) : Int) + 1))) (fun w h => (List.mem_cons_of_mem _ (List.mem_append_right _ h))) 0 rfl rfl 5 (by decide) (List.mem_cons_of_mem _ (List.mem_append_left _ (List.mem_of_getElem? (i := 0) rfl))) rfl rfl dX7_append_63 ?_
  exact ret _ () 0 0 _ _ dX7_append_66 (by decide) (by decide) rfl

set_option maxHeartbeats 1000000 in
set_option maxRecDepth 100000 in
theorem c_X7_append_1 {l : Launch} (hfl : l.flags = flags0) (D : va_G) (g : GT) (z : ZT) (ad : Nat → Nat) (th : Int) (cC : CT) (cT : TT) (cL : LT) (cP : PT) (T : List Nat) (x : Int) (hT : txOK T) (hx : rg x) (hn : ¬ (33 ≤ x ∧ x ≤ 126)) : CI l yX7_append wsX7_append 2 43 1 D g z [.ref (ad 0), .int (iI x)] (moC g ad th (cC.1, cC.2.1, cC.2.2.1, cC.2.2.2.1, ((T.length : Nat) : Int)) cT cL cP) (fun (r9 : Int32) (u9 : Unit) => True) (fun (u9 : Unit) => moC g ad 1 (cC.1, cC.2.1, cC.2.2.1, cC.2.2.2.1, ((T.length : Nat) : Int)) cT cL cP) 0 0 := by
  refine CI_of hfl (own := RX7) ⟨1, 0, 0, 22⟩ 2 43 1 (by decide +kernel) rfl rfl ⟨by decide, by decide, by decide +kernel⟩ ⟨by decide, by decide⟩ (le_ble rfl) (fun _ _ _ => rfl) ?_
  intro p e s m below meth c A Q F ret
  change J p l e _ s m _ below meth c A D _ Q 0 0 (moC g ad th (cC.1, cC.2.1, cC.2.2.1, cC.2.2.2.1, ((T.length : Nat) : Int)) cT cL cP) [(0, .ref (ad 0)), (1, .int (iI x))] [] 0
  refine j_aload_n F dX7_append_0 rfl 0 rfl ?_
  refine j_iload_n F dX7_append_1 rfl 1 rfl ?_
  refine j_bipush F dX7_append_2 (by decide) ?_
  refine j_bipush F dX7_append_4 (by decide) ?_
  refine j_callS_I F (As := [.int (iI x), .int (iI 33), .int (iI 126)]) (wr := moC g ad th (cC.1, cC.2.1, cC.2.2.1, cC.2.2.2.1, ((T.length : Nat) : Int)) cT cL cP) (st := [.ref (ad 0)]) (c_X7_within hfl D g z x 33 126 hx (by unfold rg; omega) (by unfold rg; omega)) (idx := 119) gX7_append_X7_within rfl [] [0, 1, 2, 3, 4, 5, 6, 7, 8, 9, 10, 11, 12, 13, 14] rfl rfl (by decide) (by decide) (by decide)  (by decide) (by decide) (le_ble rfl) ⟨by decide, by decide⟩ dX7_append_6 ?_
  rintro r7 u7 h7
  subst h7
  refine J.wsEq (ws2 := moC g ad th (cC.1, cC.2.1, cC.2.2.1, cC.2.2.2.1, ((T.length : Nat) : Int)) cT cL cP) rfl ?_
  refine j_ifb_ne F (tgt := 16) dX7_append_9 (by decide)  (fun h9 => by exfalso; omega) (fun c9 => ?_)
  refine j_iconst F dX7_append_12 ?_
  refine j_goto F (tgt := 30) dX7_append_13 (by decide) ?_
  refine j_putf F (ref := "CairnGameModel") (C := RX7) (T := TX7) (N := 27) (ci := 7) (index := 60) (ty := .int) (ws' := moC g ad 1 (cC.1, cC.2.1, cC.2.2.1, cC.2.2.2.1, ((T.length : Nat) : Int)) cT cL cP) (fun w h => (List.mem_cons_of_mem _ (List.mem_append_right _ h))) tyX7 tyX7_ok nmX7 0 rfl rfl 0 (by decide) (List.mem_cons_of_mem _ (List.mem_append_left _ (List.mem_of_getElem? (i := 1) rfl))) rfl rfl rfl rfl rfl (lt_ble rfl) rfl dX7_append_30 ?_
  refine j_aload_n F dX7_append_33 rfl 0 rfl ?_
  refine j_getf F (ref := "CairnGameModel") (C := RX7) (T := TX7) (N := 27) (ci := 7) (index := 60) (v := .int (iI 1)) (fun w h => (List.mem_cons_of_mem _ (List.mem_append_right _ h))) 0 rfl rfl 0 (by decide) (List.mem_cons_of_mem _ (List.mem_append_left _ (List.mem_of_getElem? (i := 1) rfl))) rfl rfl dX7_append_34 ?_
  refine j_if_le F (tgt := 42) dX7_append_37 (by decide) (by unfold rg; omega) (fun h9 => by exfalso; omega) (fun c37 => ?_)
  refine j_iconst F dX7_append_40 ?_
  exact ret _ () 0 0 _ _ dX7_append_41 (by decide) (by decide) trivial

set_option maxHeartbeats 1000000 in
set_option maxRecDepth 100000 in
theorem c_X7_append_2 {l : Launch} (hfl : l.flags = flags0) (D : va_G) (g : GT) (z : ZT) (ad : Nat → Nat) (th : Int) (cC : CT) (cT : TT) (cL : LT) (cP : PT) (T : List Nat) (x : Int) (hT : txOK T) (hx : 33 ≤ x ∧ x ≤ 126) (hl : 60 ≤ T.length) : CI l yX7_append wsX7_append 2 43 1 D g z [.ref (ad 0), .int (iI x)] (moC g ad th (cC.1, cC.2.1, cC.2.2.1, cC.2.2.2.1, ((T.length : Nat) : Int)) cT cL cP) (fun (r9 : Int32) (u9 : Unit) => True) (fun (u9 : Unit) => moC g ad 2 (cC.1, cC.2.1, cC.2.2.1, cC.2.2.2.1, ((T.length : Nat) : Int)) cT cL cP) 0 0 := by
  refine CI_of hfl (own := RX7) ⟨1, 0, 0, 22⟩ 2 43 1 (by decide +kernel) rfl rfl ⟨by decide, by decide, by decide +kernel⟩ ⟨by decide, by decide⟩ (le_ble rfl) (fun _ _ _ => rfl) ?_
  intro p e s m below meth c A Q F ret
  change J p l e _ s m _ below meth c A D _ Q 0 0 (moC g ad th (cC.1, cC.2.1, cC.2.2.1, cC.2.2.2.1, ((T.length : Nat) : Int)) cT cL cP) [(0, .ref (ad 0)), (1, .int (iI x))] [] 0
  have hTl := hT.1
  refine j_aload_n F dX7_append_0 rfl 0 rfl ?_
  refine j_iload_n F dX7_append_1 rfl 1 rfl ?_
  refine j_bipush F dX7_append_2 (by decide) ?_
  refine j_bipush F dX7_append_4 (by decide) ?_
  refine j_callS_I F (As := [.int (iI x), .int (iI 33), .int (iI 126)]) (wr := moC g ad th (cC.1, cC.2.1, cC.2.2.1, cC.2.2.2.1, ((T.length : Nat) : Int)) cT cL cP) (st := [.ref (ad 0)]) (c_X7_within hfl D g z x 33 126 (by unfold rg; omega) (by unfold rg; omega) (by unfold rg; omega)) (idx := 119) gX7_append_X7_within rfl [] [0, 1, 2, 3, 4, 5, 6, 7, 8, 9, 10, 11, 12, 13, 14] rfl rfl (by decide) (by decide) (by decide)  (by decide) (by decide) (le_ble rfl) ⟨by decide, by decide⟩ dX7_append_6 ?_
  rintro r7 u7 h7
  subst h7
  refine J.wsEq (ws2 := moC g ad th (cC.1, cC.2.1, cC.2.2.1, cC.2.2.2.1, ((T.length : Nat) : Int)) cT cL cP) rfl ?_
  refine j_ifb_ne F (tgt := 16) dX7_append_9 (by decide)  (fun c9 => ?_) (fun h9 => by exfalso; omega)
  refine j_aload_n F dX7_append_16 rfl 0 rfl ?_
  refine j_getf F (ref := "CairnGameModel") (C := RX7) (T := TX7) (N := 27) (ci := 7) (index := 177) (v := .int (iI ((T.length : Nat) : Int))) (fun w h => (List.mem_cons_of_mem _ (List.mem_append_right _ h))) 0 rfl rfl 5 (by decide) (List.mem_cons_of_mem _ (List.mem_append_left _ (List.mem_of_getElem? (i := 0) rfl))) rfl rfl dX7_append_17 ?_
  refine j_bipush F dX7_append_20 (by decide) ?_
  refine j_icmp_ne F (tgt := 29) dX7_append_22 (by decide) ⟨(by unfold rg; omega), (by unfold rg; omega)⟩ (fun h9 => by exfalso; omega) (fun c22 => ?_)
  refine j_iconst F dX7_append_25 ?_
  refine j_goto F (tgt := 30) dX7_append_26 (by decide) ?_
  refine j_putf F (ref := "CairnGameModel") (C := RX7) (T := TX7) (N := 27) (ci := 7) (index := 60) (ty := .int) (ws' := moC g ad 2 (cC.1, cC.2.1, cC.2.2.1, cC.2.2.2.1, ((T.length : Nat) : Int)) cT cL cP) (fun w h => (List.mem_cons_of_mem _ (List.mem_append_right _ h))) tyX7 tyX7_ok nmX7 0 rfl rfl 0 (by decide) (List.mem_cons_of_mem _ (List.mem_append_left _ (List.mem_of_getElem? (i := 1) rfl))) rfl rfl rfl rfl rfl (lt_ble rfl) rfl dX7_append_30 ?_
  refine j_aload_n F dX7_append_33 rfl 0 rfl ?_
  refine j_getf F (ref := "CairnGameModel") (C := RX7) (T := TX7) (N := 27) (ci := 7) (index := 60) (v := .int (iI 2)) (fun w h => (List.mem_cons_of_mem _ (List.mem_append_right _ h))) 0 rfl rfl 0 (by decide) (List.mem_cons_of_mem _ (List.mem_append_left _ (List.mem_of_getElem? (i := 1) rfl))) rfl rfl dX7_append_34 ?_
  refine j_if_le F (tgt := 42) dX7_append_37 (by decide) (by unfold rg; omega) (fun h9 => by exfalso; omega) (fun c37 => ?_)
  refine j_iconst F dX7_append_40 ?_
  exact ret _ () 0 0 _ _ dX7_append_41 (by decide) (by decide) trivial

set_option maxHeartbeats 1000000 in
set_option maxRecDepth 100000 in
theorem c_X7_clearText {l : Launch} (hfl : l.flags = flags0) (D : va_G) (g : GT) (z : ZT) (ad : Nat → Nat) (th : Int) (cC : CT) (cT : TT) (cL : LT) (cP : PT) (T : List Nat) : CI l yX7_clearText wsX7_clearText 1 21 0 D g z [.ref (ad 0)] (moC g ad th (cC.1, cC.2.1, cC.2.2.1, cC.2.2.2.1, ((T.length : Nat) : Int)) cT cL cP) (fun (r9 : Int32) (u9 : Unit) => r9 = iI ((T.length : Nat) : Int)) (fun (u9 : Unit) => moC g ad 0 (cC.1, cC.2.1, cC.2.2.1, cC.2.2.2.1, 0) cT cL cP) 0 0 := by
  refine CI_of hfl (own := RX7) ⟨0, 0, 0, 0⟩ 1 21 0 (by decide +kernel) rfl rfl ⟨by decide, by decide, by decide +kernel⟩ ⟨by decide, by decide⟩ (le_ble rfl) (fun _ _ _ => rfl) ?_
  intro p e s m below meth c A Q F ret
  change J p l e _ s m _ below meth c A D _ Q 0 0 (moC g ad th (cC.1, cC.2.1, cC.2.2.1, cC.2.2.2.1, ((T.length : Nat) : Int)) cT cL cP) [(0, .ref (ad 0))] [] 0
  refine j_aload_n F dX7_clearText_0 rfl 0 rfl ?_
  refine j_iconst F dX7_clearText_1 ?_
  refine j_putf F (ref := "CairnGameModel") (C := RX7) (T := TX7) (N := 27) (ci := 7) (index := 60) (ty := .int) (ws' := moC g ad 0 (cC.1, cC.2.1, cC.2.2.1, cC.2.2.2.1, ((T.length : Nat) : Int)) cT cL cP) (fun w h => (List.mem_cons_of_mem _ (List.mem_append_right _ h))) tyX7 tyX7_ok nmX7 0 rfl rfl 0 (by decide) (List.mem_cons_of_mem _ (List.mem_append_left _ (List.mem_of_getElem? (i := 0) rfl))) rfl rfl rfl rfl rfl (lt_ble rfl) rfl dX7_clearText_2 ?_
  refine j_aload_n F dX7_clearText_5 rfl 0 rfl ?_
  refine j_getf F (ref := "CairnGameModel") (C := RX7) (T := TX7) (N := 27) (ci := 7) (index := 177) (v := .int (iI ((T.length : Nat) : Int))) (fun w h => (List.mem_cons_of_mem _ (List.mem_append_right _ h))) 0 rfl rfl 5 (by decide) (List.mem_cons_of_mem _ (List.mem_append_left _ (List.mem_of_getElem? (i := 1) rfl))) rfl rfl dX7_clearText_6 ?_
  refine j_istore_n F (lv' := [(1, .int (iI ((T.length : Nat) : Int))), (0, .ref (ad 0))]) dX7_clearText_9 rfl (by decide) rfl ?_
  refine j_aload_n F dX7_clearText_10 rfl 1 rfl ?_
  refine j_iconst F dX7_clearText_11 ?_
  refine j_putf F (ref := "CairnGameModel") (C := RX7) (T := TX7) (N := 27) (ci := 7) (index := 177) (ty := .int) (ws' := moC g ad 0 (cC.1, cC.2.1, cC.2.2.1, cC.2.2.2.1, 0) cT cL cP) (fun w h => (List.mem_cons_of_mem _ (List.mem_append_right _ h))) tyX7 tyX7_ok nmX7 0 rfl rfl 5 (by decide) (List.mem_cons_of_mem _ (List.mem_append_left _ (List.mem_of_getElem? (i := 1) rfl))) rfl rfl rfl rfl rfl (lt_ble rfl) rfl dX7_clearText_12 ?_
  refine j_iload_n F dX7_clearText_15 rfl 0 rfl ?_
  exact ret _ () 0 0 _ _ dX7_clearText_16 (by decide) (by decide) rfl

set_option maxHeartbeats 1000000 in
set_option maxRecDepth 100000 in
theorem c_X7_accepts {l : Launch} (hfl : l.flags = flags0) (D : va_G) (g : GT) (z : ZT) (ad : Nat → Nat) (th : Int) (cC : CT) (cT : TT) (cL : LT) (cP : PT) (T : List Nat) (t : Nat) (lo hi8 : Nat) (hT : txOK T) (htr : rep cC.2.2.2.1 T) (ht : t < 1000) (hlo : 33 ≤ lo ∧ lo < 1000 ∧ hi8 < 1000) : CI l yX7_accepts wsX7_accepts 2 45 2 D g z [.ref (ad 0), .int (iI (lo : Int)), .int (iI (hi8 : Int))] (moC g ad th (cC.1, cC.2.1, cC.2.2.1, cC.2.2.2.1, ((T.length : Nat) : Int)) cT cL (((t : Nat) : Int), cP.2.1, cP.2.2.1, cP.2.2.2.1, cP.2.2.2.2)) (fun (r9 : Int32) (u9 : Unit) => r9 = iI (b2 (lo ≤ sgT T t ∧ sgT T t ≤ hi8))) (fun (u9 : Unit) => moC g ad th (cC.1, cC.2.1, cC.2.2.1, cC.2.2.2.1, ((T.length : Nat) : Int)) cT cL (((acN T t lo hi8 : Nat) : Int), cP.2.1, cP.2.2.1, cP.2.2.2.1, cP.2.2.2.2)) 0 0 := by
  refine CI_of hfl (own := RX7) ⟨1, 0, 0, 22⟩ 2 45 2 (by decide +kernel) rfl rfl ⟨by decide, by decide, by decide +kernel⟩ ⟨by decide, by decide⟩ (le_ble rfl) (fun _ _ h => nar_b2 h) ?_
  intro p e s m below meth c A Q F ret
  change J p l e _ s m _ below meth c A D _ Q 0 0 (moC g ad th (cC.1, cC.2.1, cC.2.2.1, cC.2.2.2.1, ((T.length : Nat) : Int)) cT cL (((t : Nat) : Int), cP.2.1, cP.2.2.1, cP.2.2.2.1, cP.2.2.2.2)) [(0, .ref (ad 0)), (1, .int (iI (lo : Int))), (2, .int (iI (hi8 : Int)))] [] 0
  have hTl := hT.1
  have hsg := sgT_lt hT t
  refine j_aload_n F dX7_accepts_0 rfl 0 rfl ?_
  refine j_getf F (ref := "CairnGameModel") (C := RX7) (T := TX7) (N := 27) (ci := 7) (index := 180) (v := .int (iI ((t : Nat) : Int))) (fun w h => (List.mem_cons_of_mem _ (List.mem_append_right _ h))) 0 rfl rfl 22 (by decide) (List.mem_cons_of_mem _ (List.mem_append_left _ (List.mem_of_getElem? (i := 0) rfl))) rfl rfl dX7_accepts_1 ?_
  refine j_aload_n F dX7_accepts_4 rfl 0 rfl ?_
  refine j_getf F (ref := "CairnGameModel") (C := RX7) (T := TX7) (N := 27) (ci := 7) (index := 177) (v := .int (iI ((T.length : Nat) : Int))) (fun w h => (List.mem_cons_of_mem _ (List.mem_append_right _ h))) 0 rfl rfl 5 (by decide) (List.mem_cons_of_mem _ (List.mem_append_left _ (List.mem_of_getElem? (i := 1) rfl))) rfl rfl dX7_accepts_5 ?_
  refine j_icmp_ge F (tgt := 32) dX7_accepts_8 (by decide) ⟨(by unfold rg; omega), (by unfold rg; omega)⟩ (fun c8 => ?_) (fun c8 => ?_)
  · have es := sgT_out (T := T) (t := t) (by omega)
    have hno : ¬ (lo ≤ sgT T t ∧ sgT T t ≤ hi8) := by omega
    refine j_iconst F dX7_accepts_32 ?_
    refine j_istore_n F (lv' := [(3, .int (iI 0)), (0, .ref (ad 0)), (1, .int (iI (lo : Int))), (2, .int (iI (hi8 : Int)))]) dX7_accepts_33 rfl (by decide) rfl ?_
    refine j_aload_n F dX7_accepts_34 rfl 1 rfl ?_
    refine j_dup F dX7_accepts_35 rfl ?_
    refine j_getf F (ref := "CairnGameModel") (C := RX7) (T := TX7) (N := 27) (ci := 7) (index := 180) (v := .int (iI ((t : Nat) : Int))) (fun w h => (List.mem_cons_of_mem _ (List.mem_append_right _ h))) 0 rfl rfl 22 (by decide) (List.mem_cons_of_mem _ (List.mem_append_left _ (List.mem_of_getElem? (i := 0) rfl))) rfl rfl dX7_accepts_36 ?_
    refine j_iload_n F dX7_accepts_39 rfl 0 rfl ?_
    refine j_if_eq F (tgt := 47) dX7_accepts_40 (by decide) (by unfold rg; omega) (fun c40 => ?_) (fun h9 => by exfalso; omega)
    refine j_iconst F dX7_accepts_47 ?_
    refine j_iadd F dX7_accepts_48 ?_
    refine j_putf F (ref := "CairnGameModel") (C := RX7) (T := TX7) (N := 27) (ci := 7) (index := 180) (ty := .int) (ws' := moC g ad th (cC.1, cC.2.1, cC.2.2.1, cC.2.2.2.1, ((T.length : Nat) : Int)) cT cL ((((t : Nat) : Int) + 0), cP.2.1, cP.2.2.1, cP.2.2.2.1, cP.2.2.2.2)) (fun w h => (List.mem_cons_of_mem _ (List.mem_append_right _ h))) tyX7 tyX7_ok nmX7 0 rfl rfl 22 (by decide) (List.mem_cons_of_mem _ (List.mem_append_left _ (List.mem_of_getElem? (i := 0) rfl))) rfl rfl rfl rfl rfl (lt_ble rfl) rfl dX7_accepts_49 ?_
    refine J.wsEq (ws2 := moC g ad th (cC.1, cC.2.1, cC.2.2.1, cC.2.2.2.1, ((T.length : Nat) : Int)) cT cL (((acN T t lo hi8 : Nat) : Int), cP.2.1, cP.2.2.1, cP.2.2.2.1, cP.2.2.2.2)) (by first | (rw [acN_f hno, Int.add_zero]) | (dsimp only; rw [acN_f hno, Int.add_zero])) ?_
    refine j_iload_n F dX7_accepts_52 rfl 0 rfl ?_
    exact ret _ () 0 0 _ _ dX7_accepts_53 (by decide) (by decide) (by rw [b2_f hno])
  · refine j_aload_n F dX7_accepts_11 rfl 0 rfl ?_
    refine j_getf F (ref := "CairnGameModel") (C := RX7) (T := TX7) (N := 27) (ci := 7) (index := 16) (v := .ref (ad 4)) (fun w h => (List.mem_cons_of_mem _ (List.mem_append_right _ h))) 0 rfl rfl 4 (by decide) (List.mem_cons_of_mem _ (List.mem_append_left _ (List.mem_of_getElem? (i := 2) rfl))) rfl rfl dX7_accepts_12 ?_
    refine j_aload_n F dX7_accepts_15 rfl 0 rfl ?_
    refine j_getf F (ref := "CairnGameModel") (C := RX7) (T := TX7) (N := 27) (ci := 7) (index := 180) (v := .int (iI ((t : Nat) : Int))) (fun w h => (List.mem_cons_of_mem _ (List.mem_append_right _ h))) 0 rfl rfl 22 (by decide) (List.mem_cons_of_mem _ (List.mem_append_left _ (List.mem_of_getElem? (i := 0) rfl))) rfl rfl dX7_accepts_16 ?_
    refine j_iald F 3 (n := 60) (f := cC.2.2.2.1) rfl t (by omega) (by omega) (by decide) dX7_accepts_19 ?_
    refine J.top (congrArg iI (show cC.2.2.2.1 t = (((sgT T t) : Nat) : Int) from sgT_rep htr (by omega))) ?_
    refine j_iload_n F dX7_accepts_20 rfl 1 rfl ?_
    refine j_iload_n F dX7_accepts_21 rfl 2 rfl ?_
    refine j_callS_I F (As := [.int (iI (((sgT T t) : Nat) : Int)), .int (iI (lo : Int)), .int (iI (hi8 : Int))]) (wr := moC g ad th (cC.1, cC.2.1, cC.2.2.1, cC.2.2.2.1, ((T.length : Nat) : Int)) cT cL (((t : Nat) : Int), cP.2.1, cP.2.2.1, cP.2.2.2.1, cP.2.2.2.2)) (st := []) (c_X7_within hfl D g z ((sgT T t : Nat) : Int) (lo : Int) (hi8 : Int) (by unfold rg; omega) (by unfold rg; omega) (by unfold rg; omega)) (idx := 119) gX7_accepts_X7_within rfl [] [0, 1, 2, 3, 4, 5, 6, 7, 8, 9, 10, 11, 12, 13, 14] rfl rfl (by decide) (by decide) (by decide)  (by decide) (by decide) (le_ble rfl) ⟨by decide, by decide⟩ dX7_accepts_22 ?_
    rintro r7 u7 h7
    subst h7
    refine J.wsEq (ws2 := moC g ad th (cC.1, cC.2.1, cC.2.2.1, cC.2.2.2.1, ((T.length : Nat) : Int)) cT cL (((t : Nat) : Int), cP.2.1, cP.2.2.1, cP.2.2.2.1, cP.2.2.2.2)) rfl ?_
    refine j_ifb_eq F (tgt := 32) dX7_accepts_25 (by decide)  (fun c25 => ?_) (fun c25 => ?_)
    · have hno : ¬ (lo ≤ sgT T t ∧ sgT T t ≤ hi8) := by omega
      refine j_iconst F dX7_accepts_32 ?_
      refine j_istore_n F (lv' := [(3, .int (iI 0)), (0, .ref (ad 0)), (1, .int (iI (lo : Int))), (2, .int (iI (hi8 : Int)))]) dX7_accepts_33 rfl (by decide) rfl ?_
      refine j_aload_n F dX7_accepts_34 rfl 1 rfl ?_
      refine j_dup F dX7_accepts_35 rfl ?_
      refine j_getf F (ref := "CairnGameModel") (C := RX7) (T := TX7) (N := 27) (ci := 7) (index := 180) (v := .int (iI ((t : Nat) : Int))) (fun w h => (List.mem_cons_of_mem _ (List.mem_append_right _ h))) 0 rfl rfl 22 (by decide) (List.mem_cons_of_mem _ (List.mem_append_left _ (List.mem_of_getElem? (i := 0) rfl))) rfl rfl dX7_accepts_36 ?_
      refine j_iload_n F dX7_accepts_39 rfl 0 rfl ?_
      refine j_if_eq F (tgt := 47) dX7_accepts_40 (by decide) (by unfold rg; omega) (fun c40 => ?_) (fun h9 => by exfalso; omega)
      refine j_iconst F dX7_accepts_47 ?_
      refine j_iadd F dX7_accepts_48 ?_
      refine j_putf F (ref := "CairnGameModel") (C := RX7) (T := TX7) (N := 27) (ci := 7) (index := 180) (ty := .int) (ws' := moC g ad th (cC.1, cC.2.1, cC.2.2.1, cC.2.2.2.1, ((T.length : Nat) : Int)) cT cL ((((t : Nat) : Int) + 0), cP.2.1, cP.2.2.1, cP.2.2.2.1, cP.2.2.2.2)) (fun w h => (List.mem_cons_of_mem _ (List.mem_append_right _ h))) tyX7 tyX7_ok nmX7 0 rfl rfl 22 (by decide) (List.mem_cons_of_mem _ (List.mem_append_left _ (List.mem_of_getElem? (i := 0) rfl))) rfl rfl rfl rfl rfl (lt_ble rfl) rfl dX7_accepts_49 ?_
      refine J.wsEq (ws2 := moC g ad th (cC.1, cC.2.1, cC.2.2.1, cC.2.2.2.1, ((T.length : Nat) : Int)) cT cL (((acN T t lo hi8 : Nat) : Int), cP.2.1, cP.2.2.1, cP.2.2.2.1, cP.2.2.2.2)) (by first | (rw [acN_f hno, Int.add_zero]) | (dsimp only; rw [acN_f hno, Int.add_zero])) ?_
      refine j_iload_n F dX7_accepts_52 rfl 0 rfl ?_
      exact ret _ () 0 0 _ _ dX7_accepts_53 (by decide) (by decide) (by rw [b2_f hno])
    · have hys : lo ≤ sgT T t ∧ sgT T t ≤ hi8 := by omega
      refine j_iconst F dX7_accepts_28 ?_
      refine j_goto F (tgt := 33) dX7_accepts_29 (by decide) ?_
      refine j_istore_n F (lv' := [(3, .int (iI 1)), (0, .ref (ad 0)), (1, .int (iI (lo : Int))), (2, .int (iI (hi8 : Int)))]) dX7_accepts_33 rfl (by decide) rfl ?_
      refine j_aload_n F dX7_accepts_34 rfl 1 rfl ?_
      refine j_dup F dX7_accepts_35 rfl ?_
      refine j_getf F (ref := "CairnGameModel") (C := RX7) (T := TX7) (N := 27) (ci := 7) (index := 180) (v := .int (iI ((t : Nat) : Int))) (fun w h => (List.mem_cons_of_mem _ (List.mem_append_right _ h))) 0 rfl rfl 22 (by decide) (List.mem_cons_of_mem _ (List.mem_append_left _ (List.mem_of_getElem? (i := 0) rfl))) rfl rfl dX7_accepts_36 ?_
      refine j_iload_n F dX7_accepts_39 rfl 0 rfl ?_
      refine j_if_eq F (tgt := 47) dX7_accepts_40 (by decide) (by unfold rg; omega) (fun h9 => by exfalso; omega) (fun c40 => ?_)
      refine j_iconst F dX7_accepts_43 ?_
      refine j_goto F (tgt := 48) dX7_accepts_44 (by decide) ?_
      refine j_iadd F dX7_accepts_48 ?_
      refine j_putf F (ref := "CairnGameModel") (C := RX7) (T := TX7) (N := 27) (ci := 7) (index := 180) (ty := .int) (ws' := moC g ad th (cC.1, cC.2.1, cC.2.2.1, cC.2.2.2.1, ((T.length : Nat) : Int)) cT cL ((((t : Nat) : Int) + 1), cP.2.1, cP.2.2.1, cP.2.2.2.1, cP.2.2.2.2)) (fun w h => (List.mem_cons_of_mem _ (List.mem_append_right _ h))) tyX7 tyX7_ok nmX7 0 rfl rfl 22 (by decide) (List.mem_cons_of_mem _ (List.mem_append_left _ (List.mem_of_getElem? (i := 0) rfl))) rfl rfl rfl rfl rfl (lt_ble rfl) rfl dX7_accepts_49 ?_
      refine J.wsEq (ws2 := moC g ad th (cC.1, cC.2.1, cC.2.2.1, cC.2.2.2.1, ((T.length : Nat) : Int)) cT cL (((acN T t lo hi8 : Nat) : Int), cP.2.1, cP.2.2.1, cP.2.2.2.1, cP.2.2.2.2)) (by first | (rw [acN_t hys]; rfl) | (dsimp only; rw [acN_t hys]; rfl)) ?_
      refine j_iload_n F dX7_accepts_52 rfl 0 rfl ?_
      exact ret _ () 0 0 _ _ dX7_accepts_53 (by decide) (by decide) (by rw [b2_t hys])

set_option maxHeartbeats 1000000 in
set_option maxRecDepth 100000 in
theorem c_X7_readsHeap {l : Launch} (hfl : l.flags = flags0) (D : va_G) (g : GT) (z : ZT) (ad : Nat → Nat) (th : Int) (cC : CT) (cT : TT) (cL : LT) (cP : PT) (T : List Nat) (t : Nat) (hT : txOK T) (htr : rep cC.2.2.2.1 T) (ht : t < 900) : CI l yX7_readsHeap wsX7_readsHeap 3 65 0 D g z [.ref (ad 0)] (moC g ad th (cC.1, cC.2.1, cC.2.2.1, cC.2.2.2.1, ((T.length : Nat) : Int)) cT cL (((t : Nat) : Int), cP.2.1, cP.2.2.1, cP.2.2.2.1, cP.2.2.2.2)) (fun (r9 : Int32) (u9 : Int) => (¬ (rdH T t).1 = -1 → u9 = (rdH T t).1) ∧ r9 = iI (b2 (¬ (rdH T t).1 = -1))) (fun (u9 : Int) => moC g ad th (cC.1, cC.2.1, cC.2.2.1, cC.2.2.2.1, ((T.length : Nat) : Int)) cT cL ((((rdH T t).2 : Nat) : Int), cP.2.1, cP.2.2.1, cP.2.2.2.1, u9)) 0 0 := by
  refine CI_of hfl (own := RX7) ⟨2, 0, 0, 45⟩ 3 65 0 (by decide +kernel) rfl rfl ⟨by decide, by decide, by decide +kernel⟩ ⟨by decide, by decide⟩ (le_ble rfl) (fun _ _ h => nar_b2 h.2) ?_
  intro p e s m below meth c A Q F ret
  change J p l e _ s m _ below meth c A D _ Q 0 0 (moC g ad th (cC.1, cC.2.1, cC.2.2.1, cC.2.2.2.1, ((T.length : Nat) : Int)) cT cL (((t : Nat) : Int), cP.2.1, cP.2.2.1, cP.2.2.2.1, cP.2.2.2.2)) [(0, .ref (ad 0))] [] 0
  have hTl := hT.1
  have hsg := sgT_lt hT t
  have hsg2 := sgT_lt hT (t + 1)
  refine j_aload_n F dX7_readsHeap_0 rfl 0 rfl ?_
  refine j_bipush F dX7_readsHeap_1 (by decide) ?_
  refine j_bipush F dX7_readsHeap_3 (by decide) ?_
  refine j_callV_I F (As := [.int (iI 48), .int (iI 57)]) (wr := []) (st := []) (c_X7_accepts hfl D g z ad th (cC.1, cC.2.1, cC.2.2.1, cC.2.2.2.1, ((T.length : Nat) : Int)) cT cL (((t : Nat) : Int), cP.2.1, cP.2.2.1, cP.2.2.2.1, cP.2.2.2.2) T t 48 57 hT htr (by omega) (by omega)) (idx := 183) (C := RX7) gX7_readsHeap_X7_accepts rfl rfl [0, 1, 2, 3, 4, 5, 6, 7, 8, 9, 10, 11, 12, 13, 14] [] rfl rfl (by decide) (by decide) (by decide) (ci := 7) (q0 := 0) rfl rfl (by decide) (by decide) (le_ble rfl) ⟨by decide, by decide⟩ dX7_readsHeap_5 ?_
  rintro r9 u9 h9
  subst h9
  refine J.wsEq (ws2 := moC g ad th (cC.1, cC.2.1, cC.2.2.1, cC.2.2.2.1, ((T.length : Nat) : Int)) cT cL (((acN T t 48 57 : Nat) : Int), cP.2.1, cP.2.2.1, cP.2.2.2.1, cP.2.2.2.2)) rfl ?_
  refine j_ifb_ne F (tgt := 13) dX7_readsHeap_8 (by decide)  (fun c8 => ?_) (fun c8 => ?_)
  · have htl : t < T.length := by rcases Nat.lt_or_ge t T.length with w | w; (exact w); have := sgT_out w; omega
    have es := sgT_rep htr htl
    refine J.wsEq (ws2 := moC g ad th (cC.1, cC.2.1, cC.2.2.1, cC.2.2.2.1, ((T.length : Nat) : Int)) cT cL (((t + 1 : Nat) : Int), cP.2.1, cP.2.2.1, cP.2.2.2.1, cP.2.2.2.2)) (by first | (rw [acN_t c8]) | (dsimp only; rw [acN_t c8])) ?_
    refine j_aload_n F dX7_readsHeap_13 rfl 0 rfl ?_
    refine j_aload_n F dX7_readsHeap_14 rfl 0 rfl ?_
    refine j_getf F (ref := "CairnGameModel") (C := RX7) (T := TX7) (N := 27) (ci := 7) (index := 16) (v := .ref (ad 4)) (fun w h => (List.mem_cons_of_mem _ (List.mem_append_right _ h))) 0 rfl rfl 4 (by decide) (List.mem_cons_of_mem _ (List.mem_append_left _ (List.mem_of_getElem? (i := 0) rfl))) rfl rfl dX7_readsHeap_15 ?_
    refine j_aload_n F dX7_readsHeap_18 rfl 0 rfl ?_
    refine j_getf F (ref := "CairnGameModel") (C := RX7) (T := TX7) (N := 27) (ci := 7) (index := 180) (v := .int (iI ((t + 1 : Nat) : Int))) (fun w h => (List.mem_cons_of_mem _ (List.mem_append_right _ h))) 0 rfl rfl 22 (by decide) (List.mem_cons_of_mem _ (List.mem_append_left _ (List.mem_of_getElem? (i := 1) rfl))) rfl rfl dX7_readsHeap_19 ?_
    refine j_iconst F dX7_readsHeap_22 ?_
    refine j_isub F dX7_readsHeap_23 ?_
    refine J.top (congrArg iI (show (((t + 1 : Nat) : Int) - 1) = (t : Int) from by omega)) ?_
    refine j_iald F 3 (n := 60) (f := cC.2.2.2.1) rfl t (rfl) (by omega) (by decide) dX7_readsHeap_24 ?_
    refine J.top (congrArg iI (show cC.2.2.2.1 t = (((sgT T t) : Nat) : Int) from es)) ?_
    refine j_bipush F dX7_readsHeap_25 (by decide) ?_
    refine j_isub F dX7_readsHeap_27 ?_
    refine j_putf F (ref := "CairnGameModel") (C := RX7) (T := TX7) (N := 27) (ci := 7) (index := 187) (ty := .int) (ws' := moC g ad th (cC.1, cC.2.1, cC.2.2.1, cC.2.2.2.1, ((T.length : Nat) : Int)) cT cL (((t + 1 : Nat) : Int), cP.2.1, cP.2.2.1, cP.2.2.2.1, ((((sgT T t) : Nat) : Int) - 48))) (fun w h => (List.mem_cons_of_mem _ (List.mem_append_right _ h))) tyX7 tyX7_ok nmX7 0 rfl rfl 26 (by decide) (List.mem_cons_of_mem _ (List.mem_append_left _ (List.mem_of_getElem? (i := 2) rfl))) rfl rfl rfl rfl rfl (lt_ble rfl) rfl dX7_readsHeap_28 ?_
    refine j_aload_n F dX7_readsHeap_31 rfl 0 rfl ?_
    refine j_getf F (ref := "CairnGameModel") (C := RX7) (T := TX7) (N := 27) (ci := 7) (index := 187) (v := .int (iI ((((sgT T t) : Nat) : Int) - 48))) (fun w h => (List.mem_cons_of_mem _ (List.mem_append_right _ h))) 0 rfl rfl 26 (by decide) (List.mem_cons_of_mem _ (List.mem_append_left _ (List.mem_of_getElem? (i := 2) rfl))) rfl rfl dX7_readsHeap_32 ?_
    refine j_iconst F dX7_readsHeap_35 ?_
    refine j_icmp_ne F (tgt := 71) dX7_readsHeap_36 (by decide) ⟨(by unfold rg; omega), (by unfold rg; omega)⟩ (fun c36 => ?_) (fun c36 => ?_)
    · have e0 : rdH T t = (((sgT T t : Nat) : Int) - 48, t + 1) := by unfold rdH; rw [if_neg (by omega), if_neg (by omega)]
      refine j_iconst F dX7_readsHeap_71 ?_
      refine J.wsEq (ws2 := moC g ad th (cC.1, cC.2.1, cC.2.2.1, cC.2.2.2.1, ((T.length : Nat) : Int)) cT cL ((((rdH T t).2 : Nat) : Int), cP.2.1, cP.2.2.1, cP.2.2.2.1, (((sgT T t : Nat) : Int) - 48))) (by first | (rw [e0]) | (dsimp only; rw [e0])) ?_
      exact ret _ (((sgT T t : Nat) : Int) - 48) 0 0 _ _ dX7_readsHeap_72 (by decide) (by decide) (⟨fun _ => by rw [e0], by rw [b2_t (by rw [e0]; dsimp only; omega)]⟩)
    · refine j_aload_n F dX7_readsHeap_39 rfl 0 rfl ?_
      refine j_bipush F dX7_readsHeap_40 (by decide) ?_
      refine j_bipush F dX7_readsHeap_42 (by decide) ?_
      refine j_callV_I F (As := [.int (iI 48), .int (iI 49)]) (wr := []) (st := []) (c_X7_accepts hfl D g z ad th (cC.1, cC.2.1, cC.2.2.1, cC.2.2.2.1, ((T.length : Nat) : Int)) cT cL (((t + 1 : Nat) : Int), cP.2.1, cP.2.2.1, cP.2.2.2.1, (((sgT T t : Nat) : Int) - 48)) T (t + 1) 48 49 hT htr (by omega) (by omega)) (idx := 183) (C := RX7) gX7_readsHeap_X7_accepts rfl rfl [0, 1, 2, 3, 4, 5, 6, 7, 8, 9, 10, 11, 12, 13, 14] [] rfl rfl (by decide) (by decide) (by decide) (ci := 7) (q0 := 0) rfl rfl (by decide) (by decide) (le_ble rfl) ⟨by decide, by decide⟩ dX7_readsHeap_44 ?_
      rintro r9 u9 h9
      subst h9
      refine J.wsEq (ws2 := moC g ad th (cC.1, cC.2.1, cC.2.2.1, cC.2.2.2.1, ((T.length : Nat) : Int)) cT cL (((acN T (t + 1) 48 49 : Nat) : Int), cP.2.1, cP.2.2.1, cP.2.2.2.1, (((sgT T t : Nat) : Int) - 48))) rfl ?_
      refine j_ifb_eq F (tgt := 71) dX7_readsHeap_47 (by decide)  (fun c47 => ?_) (fun c47 => ?_)
      · have e0 : rdH T t = (1, t + 1) := by unfold rdH; rw [if_neg (by omega), if_pos (by omega), if_neg (by omega), if_neg (by omega)]
        refine j_iconst F dX7_readsHeap_71 ?_
        refine J.wsEq (ws2 := moC g ad th (cC.1, cC.2.1, cC.2.2.1, cC.2.2.2.1, ((T.length : Nat) : Int)) cT cL ((((rdH T t).2 : Nat) : Int), cP.2.1, cP.2.2.1, cP.2.2.2.1, (((sgT T t : Nat) : Int) - 48))) (by first | (rw [acN_f c47, e0]) | (dsimp only; rw [acN_f c47, e0])) ?_
        exact ret _ (((sgT T t : Nat) : Int) - 48) 0 0 _ _ dX7_readsHeap_72 (by decide) (by decide) (⟨fun _ => by rw [e0]; dsimp only; omega, by rw [b2_t (by rw [e0]; exact (show ¬ (1 : Int) = -1 by decide))]⟩)
      · have htl2 : t + 1 < T.length := by rcases Nat.lt_or_ge (t + 1) T.length with w | w; (exact w); have := sgT_out w; omega
        have es2 := sgT_rep htr htl2
        have e0 : rdH T t = (10 + ((sgT T (t + 1) : Nat) : Int) - 48, t + 2) := by unfold rdH; rw [if_neg (by omega), if_pos (by omega)]; by_cases w : sgT T (t + 1) = 48; (rw [if_pos w, w]; rfl); rw [if_neg w, if_pos (by omega), show sgT T (t + 1) = 49 by omega]; rfl
        refine J.wsEq (ws2 := moC g ad th (cC.1, cC.2.1, cC.2.2.1, cC.2.2.2.1, ((T.length : Nat) : Int)) cT cL (((t + 2 : Nat) : Int), cP.2.1, cP.2.2.1, cP.2.2.2.1, (((sgT T t : Nat) : Int) - 48))) (by first | (rw [acN_t c47]) | (dsimp only; rw [acN_t c47])) ?_
        refine j_aload_n F dX7_readsHeap_50 rfl 0 rfl ?_
        refine j_bipush F dX7_readsHeap_51 (by decide) ?_
        refine j_aload_n F dX7_readsHeap_53 rfl 0 rfl ?_
        refine j_getf F (ref := "CairnGameModel") (C := RX7) (T := TX7) (N := 27) (ci := 7) (index := 16) (v := .ref (ad 4)) (fun w h => (List.mem_cons_of_mem _ (List.mem_append_right _ h))) 0 rfl rfl 4 (by decide) (List.mem_cons_of_mem _ (List.mem_append_left _ (List.mem_of_getElem? (i := 0) rfl))) rfl rfl dX7_readsHeap_54 ?_
        refine j_aload_n F dX7_readsHeap_57 rfl 0 rfl ?_
        refine j_getf F (ref := "CairnGameModel") (C := RX7) (T := TX7) (N := 27) (ci := 7) (index := 180) (v := .int (iI ((t + 2 : Nat) : Int))) (fun w h => (List.mem_cons_of_mem _ (List.mem_append_right _ h))) 0 rfl rfl 22 (by decide) (List.mem_cons_of_mem _ (List.mem_append_left _ (List.mem_of_getElem? (i := 1) rfl))) rfl rfl dX7_readsHeap_58 ?_
        refine j_iconst F dX7_readsHeap_61 ?_
        refine j_isub F dX7_readsHeap_62 ?_
        refine J.top (congrArg iI (show (((t + 2 : Nat) : Int) - 1) = (((t + 1) : Nat) : Int) from by omega)) ?_
        refine j_iald F 3 (n := 60) (f := cC.2.2.2.1) rfl (t + 1) (by omega) (by omega) (by decide) dX7_readsHeap_63 ?_
        refine J.top (congrArg iI (show cC.2.2.2.1 (t + 1) = (((sgT T (t + 1)) : Nat) : Int) from es2)) ?_
        refine j_iadd F dX7_readsHeap_64 ?_
        refine j_bipush F dX7_readsHeap_65 (by decide) ?_
        refine j_isub F dX7_readsHeap_67 ?_
        refine j_putf F (ref := "CairnGameModel") (C := RX7) (T := TX7) (N := 27) (ci := 7) (index := 187) (ty := .int) (ws' := moC g ad th (cC.1, cC.2.1, cC.2.2.1, cC.2.2.2.1, ((T.length : Nat) : Int)) cT cL (((t + 2 : Nat) : Int), cP.2.1, cP.2.2.1, cP.2.2.2.1, ((10 + (((sgT T (t + 1)) : Nat) : Int)) - 48))) (fun w h => (List.mem_cons_of_mem _ (List.mem_append_right _ h))) tyX7 tyX7_ok nmX7 0 rfl rfl 26 (by decide) (List.mem_cons_of_mem _ (List.mem_append_left _ (List.mem_of_getElem? (i := 2) rfl))) rfl rfl rfl rfl rfl (lt_ble rfl) rfl dX7_readsHeap_68 ?_
        refine j_iconst F dX7_readsHeap_71 ?_
        refine J.wsEq (ws2 := moC g ad th (cC.1, cC.2.1, cC.2.2.1, cC.2.2.2.1, ((T.length : Nat) : Int)) cT cL ((((rdH T t).2 : Nat) : Int), cP.2.1, cP.2.2.1, cP.2.2.2.1, (10 + ((sgT T (t + 1) : Nat) : Int) - 48))) (by first | (rw [e0]) | (dsimp only; rw [e0])) ?_
        exact ret _ (10 + ((sgT T (t + 1) : Nat) : Int) - 48) 0 0 _ _ dX7_readsHeap_72 (by decide) (by decide) (⟨fun _ => by rw [e0], by rw [b2_t (by rw [e0]; dsimp only; omega)]⟩)
  · have e0 : rdH T t = (-1, t) := by unfold rdH; rw [if_pos (by omega)]
    refine j_iconst F dX7_readsHeap_11 ?_
    refine J.wsEq (ws2 := moC g ad th (cC.1, cC.2.1, cC.2.2.1, cC.2.2.2.1, ((T.length : Nat) : Int)) cT cL ((((rdH T t).2 : Nat) : Int), cP.2.1, cP.2.2.1, cP.2.2.2.1, cP.2.2.2.2)) (by first | (rw [acN_f c8, e0]) | (dsimp only; rw [acN_f c8, e0])) ?_
    exact ret _ cP.2.2.2.2 0 0 _ _ dX7_readsHeap_12 (by decide) (by decide) (⟨fun w => absurd (by rw [e0]) w, by rw [b2_f (by rw [e0]; exact fun w => w rfl)]⟩)

set_option maxHeartbeats 1000000 in
set_option maxRecDepth 100000 in
theorem c_X7_readsAmount {l : Launch} (hfl : l.flags = flags0) (D : va_G) (g : GT) (z : ZT) (ad : Nat → Nat) (th : Int) (cC : CT) (cT : TT) (cL : LT) (cP : PT) (T : List Nat) (t : Nat) (k : Nat) (hT : txOK T) (htr : rep cC.2.2.2.1 T) (ht : t < 900) (hk : k < 2) : CI l yX7_readsAmount wsX7_readsAmount 3 67 1 D g z [.ref (ad 0), .int (iI (((k + 5) : Nat) : Int))] (moC g ad th (cC.1, cC.2.1, cC.2.2.1, cC.2.2.2.1, ((T.length : Nat) : Int)) cT cL (((t : Nat) : Int), cP.2.1, cP.2.2.1, cP.2.2.2.1, cP.2.2.2.2)) (fun (r9 : Int32) (u9 : Int) => (¬ (rdA T t (k : Int)).1 = -1 → u9 = (rdA T t (k : Int)).1) ∧ r9 = iI (b2 (¬ (rdA T t (k : Int)).1 = -1))) (fun (u9 : Int) => moC g ad th (cC.1, cC.2.1, cC.2.2.1, cC.2.2.2.1, ((T.length : Nat) : Int)) cT cL ((((rdA T t (k : Int)).2 : Nat) : Int), cP.2.1, cP.2.2.1, u9, cP.2.2.2.2)) 0 0 := by
  refine CI_of hfl (own := RX7) ⟨2, 0, 0, 45⟩ 3 67 1 (by decide +kernel) rfl rfl ⟨by decide, by decide, by decide +kernel⟩ ⟨by decide, by decide⟩ (le_ble rfl) (fun _ _ h => nar_b2 h.2) ?_
  intro p e s m below meth c A Q F ret
  change J p l e _ s m _ below meth c A D _ Q 0 0 (moC g ad th (cC.1, cC.2.1, cC.2.2.1, cC.2.2.2.1, ((T.length : Nat) : Int)) cT cL (((t : Nat) : Int), cP.2.1, cP.2.2.1, cP.2.2.2.1, cP.2.2.2.2)) [(0, .ref (ad 0)), (1, .int (iI (((k + 5) : Nat) : Int)))] [] 0
  have hTl := hT.1
  have hsg := sgT_lt hT t
  have eam : amL (k : Int) = k + 53 := by unfold amL; split <;> omega
  refine j_aload_n F dX7_readsAmount_0 rfl 0 rfl ?_
  refine j_bipush F dX7_readsAmount_1 (by decide) ?_
  refine j_bipush F dX7_readsAmount_3 (by decide) ?_
  refine j_iload_n F dX7_readsAmount_5 rfl 1 rfl ?_
  refine j_iadd F dX7_readsAmount_6 ?_
  refine J.top (congrArg iI (show (48 + (((k + 5) : Nat) : Int)) = (((k + 53) : Nat) : Int) from by omega)) ?_
  refine j_callV_I F (As := [.int (iI 49), .int (iI (((k + 53) : Nat) : Int))]) (wr := []) (st := []) (c_X7_accepts hfl D g z ad th (cC.1, cC.2.1, cC.2.2.1, cC.2.2.2.1, ((T.length : Nat) : Int)) cT cL (((t : Nat) : Int), cP.2.1, cP.2.2.1, cP.2.2.2.1, cP.2.2.2.2) T t 49 (k + 53) hT htr (by omega) (by omega)) (idx := 183) (C := RX7) gX7_readsAmount_X7_accepts rfl rfl [0, 1, 2, 3, 4, 5, 6, 7, 8, 9, 10, 11, 12, 13, 14] [] rfl rfl (by decide) (by decide) (by decide) (ci := 7) (q0 := 0) rfl rfl (by decide) (by decide) (le_ble rfl) ⟨by decide, by decide⟩ dX7_readsAmount_7 ?_
  rintro r9 u9 h9
  subst h9
  refine J.wsEq (ws2 := moC g ad th (cC.1, cC.2.1, cC.2.2.1, cC.2.2.2.1, ((T.length : Nat) : Int)) cT cL (((acN T t 49 (k + 53) : Nat) : Int), cP.2.1, cP.2.2.1, cP.2.2.2.1, cP.2.2.2.2)) rfl ?_
  refine j_istore_n F (lv' := [(2, .int (iI (b2 (49 ≤ sgT T t ∧ sgT T t ≤ (k + 53))))), (0, .ref (ad 0)), (1, .int (iI (((k + 5) : Nat) : Int)))]) dX7_readsAmount_10 rfl (by decide) rfl ?_
  refine j_aload_n F dX7_readsAmount_11 rfl 1 rfl ?_
  refine j_iload_n F dX7_readsAmount_12 rfl 0 rfl ?_
  refine j_ifb_eq F (tgt := 33) dX7_readsAmount_13 (by decide)  (fun c13 => ?_) (fun c13 => ?_)
  · have e0 : rdA T t (k : Int) = (-1, t) := by unfold rdA; rw [if_neg (by omega), if_pos (by omega)]
    refine j_iconst F dX7_readsAmount_33 ?_
    refine j_putf F (ref := "CairnGameModel") (C := RX7) (T := TX7) (N := 27) (ci := 7) (index := 190) (ty := .int) (ws' := moC g ad th (cC.1, cC.2.1, cC.2.2.1, cC.2.2.2.1, ((T.length : Nat) : Int)) cT cL (((acN T t 49 (k + 53) : Nat) : Int), cP.2.1, cP.2.2.1, 0, cP.2.2.2.2)) (fun w h => (List.mem_cons_of_mem _ (List.mem_append_right _ h))) tyX7 tyX7_ok nmX7 0 rfl rfl 25 (by decide) (List.mem_cons_of_mem _ (List.mem_append_left _ (List.mem_of_getElem? (i := 2) rfl))) rfl rfl rfl rfl rfl (lt_ble rfl) rfl dX7_readsAmount_34 ?_
    refine j_iload_n F dX7_readsAmount_37 rfl 0 rfl ?_
    refine J.wsEq (ws2 := moC g ad th (cC.1, cC.2.1, cC.2.2.1, cC.2.2.2.1, ((T.length : Nat) : Int)) cT cL ((((rdA T t (k : Int)).2 : Nat) : Int), cP.2.1, cP.2.2.1, 0, cP.2.2.2.2)) (by first | (rw [acN_f c13, e0]) | (dsimp only; rw [acN_f c13, e0])) ?_
    exact ret _ 0 0 0 _ _ dX7_readsAmount_38 (by decide) (by decide) (⟨fun w => absurd (by rw [e0]) w, by rw [b2_f c13, b2_f (by rw [e0]; exact fun w => w rfl)]⟩)
  · have htl : t < T.length := by rcases Nat.lt_or_ge t T.length with w | w; (exact w); have := sgT_out w; omega
    have es := sgT_rep htr htl
    have e0 : rdA T t (k : Int) = (((sgT T t : Nat) : Int) - 48, t + 1) := by unfold rdA; rw [if_neg (by omega), if_neg (by omega)]
    refine J.wsEq (ws2 := moC g ad th (cC.1, cC.2.1, cC.2.2.1, cC.2.2.2.1, ((T.length : Nat) : Int)) cT cL (((t + 1 : Nat) : Int), cP.2.1, cP.2.2.1, cP.2.2.2.1, cP.2.2.2.2)) (by first | (rw [acN_t c13]) | (dsimp only; rw [acN_t c13])) ?_
    refine j_aload_n F dX7_readsAmount_16 rfl 1 rfl ?_
    refine j_getf F (ref := "CairnGameModel") (C := RX7) (T := TX7) (N := 27) (ci := 7) (index := 16) (v := .ref (ad 4)) (fun w h => (List.mem_cons_of_mem _ (List.mem_append_right _ h))) 0 rfl rfl 4 (by decide) (List.mem_cons_of_mem _ (List.mem_append_left _ (List.mem_of_getElem? (i := 0) rfl))) rfl rfl dX7_readsAmount_17 ?_
    refine j_aload_n F dX7_readsAmount_20 rfl 1 rfl ?_
    refine j_getf F (ref := "CairnGameModel") (C := RX7) (T := TX7) (N := 27) (ci := 7) (index := 180) (v := .int (iI ((t + 1 : Nat) : Int))) (fun w h => (List.mem_cons_of_mem _ (List.mem_append_right _ h))) 0 rfl rfl 22 (by decide) (List.mem_cons_of_mem _ (List.mem_append_left _ (List.mem_of_getElem? (i := 1) rfl))) rfl rfl dX7_readsAmount_21 ?_
    refine j_iconst F dX7_readsAmount_24 ?_
    refine j_isub F dX7_readsAmount_25 ?_
    refine J.top (congrArg iI (show (((t + 1 : Nat) : Int) - 1) = (t : Int) from by omega)) ?_
    refine j_iald F 3 (n := 60) (f := cC.2.2.2.1) rfl t (rfl) (by omega) (by decide) dX7_readsAmount_26 ?_
    refine J.top (congrArg iI (show cC.2.2.2.1 t = (((sgT T t) : Nat) : Int) from es)) ?_
    refine j_bipush F dX7_readsAmount_27 (by decide) ?_
    refine j_isub F dX7_readsAmount_29 ?_
    refine j_goto F (tgt := 34) dX7_readsAmount_30 (by decide) ?_
    refine j_putf F (ref := "CairnGameModel") (C := RX7) (T := TX7) (N := 27) (ci := 7) (index := 190) (ty := .int) (ws' := moC g ad th (cC.1, cC.2.1, cC.2.2.1, cC.2.2.2.1, ((T.length : Nat) : Int)) cT cL (((t + 1 : Nat) : Int), cP.2.1, cP.2.2.1, ((((sgT T t) : Nat) : Int) - 48), cP.2.2.2.2)) (fun w h => (List.mem_cons_of_mem _ (List.mem_append_right _ h))) tyX7 tyX7_ok nmX7 0 rfl rfl 25 (by decide) (List.mem_cons_of_mem _ (List.mem_append_left _ (List.mem_of_getElem? (i := 2) rfl))) rfl rfl rfl rfl rfl (lt_ble rfl) rfl dX7_readsAmount_34 ?_
    refine j_iload_n F dX7_readsAmount_37 rfl 0 rfl ?_
    refine J.wsEq (ws2 := moC g ad th (cC.1, cC.2.1, cC.2.2.1, cC.2.2.2.1, ((T.length : Nat) : Int)) cT cL ((((rdA T t (k : Int)).2 : Nat) : Int), cP.2.1, cP.2.2.1, (((sgT T t : Nat) : Int) - 48), cP.2.2.2.2)) (by first | (rw [e0]) | (dsimp only; rw [e0])) ?_
    exact ret _ (((sgT T t : Nat) : Int) - 48) 0 0 _ _ dX7_readsAmount_38 (by decide) (by decide) (⟨fun _ => by rw [e0], by rw [b2_t c13, b2_t (by rw [e0]; dsimp only; omega)]⟩)

set_option maxHeartbeats 1000000 in
set_option maxRecDepth 100000 in
theorem c_X7_readsOther {l : Launch} (hfl : l.flags = flags0) (D : va_G) (g : GT) (z : ZT) (ad : Nat → Nat) (th : Int) (cC : CT) (cT : TT) (cL : LT) (cP : PT) (T : List Nat) (t : Nat) (hT : txOK T) (htr : rep cC.2.2.2.1 T) (ht : t < 900) : CI l yX7_readsOther wsX7_readsOther 4 86 0 D g z [.ref (ad 0)] (moC g ad th (cC.1, cC.2.1, cC.2.2.1, cC.2.2.2.1, ((T.length : Nat) : Int)) cT cL (((t : Nat) : Int), cP.2.1, cP.2.2.1, cP.2.2.2.1, cP.2.2.2.2)) (fun (r9 : Int32) (u9 : Int) => (¬ (rdH T t).1 = -1 → u9 = (rdH T t).1) ∧ r9 = iI (b2 (¬ (rdH T t).1 = -1))) (fun (u9 : Int) => moC g ad th (cC.1, cC.2.1, cC.2.2.1, cC.2.2.2.1, ((T.length : Nat) : Int)) cT cL ((((rdH T t).2 : Nat) : Int), cP.2.1, cP.2.2.1, u9, u9)) 0 0 := by
  refine CI_of hfl (own := RX7) ⟨3, 0, 0, 65⟩ 4 86 0 (by decide +kernel) rfl rfl ⟨by decide, by decide, by decide +kernel⟩ ⟨by decide, by decide⟩ (le_ble rfl) (fun _ _ h => nar_b2 h.2) ?_
  intro p e s m below meth c A Q F ret
  change J p l e _ s m _ below meth c A D _ Q 0 0 (moC g ad th (cC.1, cC.2.1, cC.2.2.1, cC.2.2.2.1, ((T.length : Nat) : Int)) cT cL (((t : Nat) : Int), cP.2.1, cP.2.2.1, cP.2.2.2.1, cP.2.2.2.2)) [(0, .ref (ad 0))] [] 0
  have hTl := hT.1
  have hsg := sgT_lt hT t
  refine j_aload_n F dX7_readsOther_0 rfl 0 rfl ?_
  refine j_callV_I F (As := []) (wr := []) (st := []) (c_X7_readsHeap hfl D g z ad th (cC.1, cC.2.1, cC.2.2.1, cC.2.2.2.1, ((T.length : Nat) : Int)) cT cL (((t : Nat) : Int), cP.2.1, cP.2.2.1, cP.2.2.2.1, cP.2.2.2.2) T t hT htr (by omega)) (idx := 193) (C := RX7) gX7_readsOther_X7_readsHeap rfl rfl [0, 1, 2, 3, 4, 5, 6, 7, 8, 9, 10, 11, 12, 13, 14] [] rfl rfl (by decide) (by decide) (by decide) (ci := 7) (q0 := 0) rfl rfl (by decide) (by decide) (le_ble rfl) ⟨by decide, by decide⟩ dX7_readsOther_1 ?_
  rintro r9 u9 ⟨h8, h9⟩
  subst h9
  refine J.wsEq (ws2 := moC g ad th (cC.1, cC.2.1, cC.2.2.1, cC.2.2.2.1, ((T.length : Nat) : Int)) cT cL ((((rdH T t).2 : Nat) : Int), cP.2.1, cP.2.2.1, cP.2.2.2.1, u9)) rfl ?_
  refine j_istore_n F (lv' := [(1, .int (iI (b2 (¬ (rdH T t).1 = -1)))), (0, .ref (ad 0))]) dX7_readsOther_4 rfl (by decide) rfl ?_
  refine j_aload_n F dX7_readsOther_5 rfl 1 rfl ?_
  refine j_aload_n F dX7_readsOther_6 rfl 1 rfl ?_
  refine j_getf F (ref := "CairnGameModel") (C := RX7) (T := TX7) (N := 27) (ci := 7) (index := 187) (v := .int (iI u9)) (fun w h => (List.mem_cons_of_mem _ (List.mem_append_right _ h))) 0 rfl rfl 26 (by decide) (List.mem_cons_of_mem _ (List.mem_append_left _ (List.mem_of_getElem? (i := 0) rfl))) rfl rfl dX7_readsOther_7 ?_
  refine j_putf F (ref := "CairnGameModel") (C := RX7) (T := TX7) (N := 27) (ci := 7) (index := 190) (ty := .int) (ws' := moC g ad th (cC.1, cC.2.1, cC.2.2.1, cC.2.2.2.1, ((T.length : Nat) : Int)) cT cL ((((rdH T t).2 : Nat) : Int), cP.2.1, cP.2.2.1, u9, u9)) (fun w h => (List.mem_cons_of_mem _ (List.mem_append_right _ h))) tyX7 tyX7_ok nmX7 0 rfl rfl 25 (by decide) (List.mem_cons_of_mem _ (List.mem_append_left _ (List.mem_of_getElem? (i := 1) rfl))) rfl rfl rfl rfl rfl (lt_ble rfl) rfl dX7_readsOther_10 ?_
  refine j_iload_n F dX7_readsOther_13 rfl 0 rfl ?_
  exact ret _ u9 0 0 _ _ dX7_readsOther_14 (by decide) (by decide) (⟨h8, rfl⟩)

set_option maxHeartbeats 1000000 in
set_option maxRecDepth 100000 in
theorem c_X7_readsItem {l : Launch} (hfl : l.flags = flags0) (D : va_G) (g : GT) (z : ZT) (ad : Nat → Nat) (th : Int) (cC : CT) (cT : TT) (cL : LT) (cP : PT) (T : List Nat) (t : Nat) (hT : txOK T) (htr : rep cC.2.2.2.1 T) (ht : t < 800) : CI l yX7_readsItem wsX7_readsItem 5 107 0 D g z [.ref (ad 0)] (moC g ad th (cC.1, cC.2.1, cC.2.2.1, cC.2.2.2.1, ((T.length : Nat) : Int)) cT cL (((t : Nat) : Int), cP.2.1, cP.2.2.1, cP.2.2.2.1, cP.2.2.2.2)) (fun (r9 : Int32) (u9 : Int × Int × Int × Int) => ((rdI T t 0 0).1 = 1 → u9.1 = (rdI T t 0 0).2.2.1 ∧ u9.2.1 = (rdI T t 0 0).2.2.2.1 ∧ u9.2.2.1 = (rdI T t 0 0).2.2.2.2) ∧ r9 = iI (rdI T t 0 0).1) (fun (u9 : Int × Int × Int × Int) => moC g ad th (cC.1, cC.2.1, cC.2.2.1, cC.2.2.2.1, ((T.length : Nat) : Int)) cT cL ((((rdI T t 0 0).2.1 : Nat) : Int), u9.1, u9.2.1, u9.2.2.1, u9.2.2.2)) 0 0 := by
  refine CI_of hfl (own := RX7) ⟨4, 0, 0, 86⟩ 5 107 0 (by decide +kernel) rfl rfl ⟨by decide, by decide, by decide +kernel⟩ ⟨by decide, by decide⟩ (le_ble rfl) (fun _ _ h => nar_01 h.2 (rdI_01 _ _ _ _)) ?_
  intro p e s m below meth c A Q F ret
  change J p l e _ s m _ below meth c A D _ Q 0 0 (moC g ad th (cC.1, cC.2.1, cC.2.2.1, cC.2.2.2.1, ((T.length : Nat) : Int)) cT cL (((t : Nat) : Int), cP.2.1, cP.2.2.1, cP.2.2.2.1, cP.2.2.2.2)) [(0, .ref (ad 0))] [] 0
  have hTl := hT.1
  have hsg := sgT_lt hT t
  refine j_aload_n F dX7_readsItem_0 rfl 0 rfl ?_
  refine j_aload_n F dX7_readsItem_1 rfl 0 rfl ?_
  refine j_bipush F dX7_readsItem_2 (by decide) ?_
  refine j_bipush F dX7_readsItem_4 (by decide) ?_
  refine j_callV_I F (As := [.int (iI 116), .int (iI 116)]) (wr := []) (st := [.ref (ad 0)]) (c_X7_accepts hfl D g z ad th (cC.1, cC.2.1, cC.2.2.1, cC.2.2.2.1, ((T.length : Nat) : Int)) cT cL (((t : Nat) : Int), cP.2.1, cP.2.2.1, cP.2.2.2.1, cP.2.2.2.2) T t 116 116 hT htr (by omega) (by omega)) (idx := 183) (C := RX7) gX7_readsItem_X7_accepts rfl rfl [0, 1, 2, 3, 4, 5, 6, 7, 8, 9, 10, 11, 12, 13, 14] [] rfl rfl (by decide) (by decide) (by decide) (ci := 7) (q0 := 0) rfl rfl (by decide) (by decide) (le_ble rfl) ⟨by decide, by decide⟩ dX7_readsItem_6 ?_
  rintro r9 u9 h9
  subst h9
  refine J.wsEq (ws2 := moC g ad th (cC.1, cC.2.1, cC.2.2.1, cC.2.2.2.1, ((T.length : Nat) : Int)) cT cL (((acN T t 116 116 : Nat) : Int), cP.2.1, cP.2.2.1, cP.2.2.2.1, cP.2.2.2.2)) rfl ?_
  refine j_ifb_eq F (tgt := 16) dX7_readsItem_9 (by decide)  (fun c9 => ?_) (fun c9 => ?_)
  · refine J.wsEq (ws2 := moC g ad th (cC.1, cC.2.1, cC.2.2.1, cC.2.2.2.1, ((T.length : Nat) : Int)) cT cL (((t : Nat) : Int), cP.2.1, cP.2.2.1, cP.2.2.2.1, cP.2.2.2.2)) (by first | (rw [acN_f c9]) | (dsimp only; rw [acN_f c9])) ?_
    refine j_aload_n F dX7_readsItem_16 rfl 0 rfl ?_
    refine j_bipush F dX7_readsItem_17 (by decide) ?_
    refine j_bipush F dX7_readsItem_19 (by decide) ?_
    refine j_callV_I F (As := [.int (iI 115), .int (iI 115)]) (wr := []) (st := [.ref (ad 0)]) (c_X7_accepts hfl D g z ad th (cC.1, cC.2.1, cC.2.2.1, cC.2.2.2.1, ((T.length : Nat) : Int)) cT cL (((t : Nat) : Int), cP.2.1, cP.2.2.1, cP.2.2.2.1, cP.2.2.2.2) T t 115 115 hT htr (by omega) (by omega)) (idx := 183) (C := RX7) gX7_readsItem_X7_accepts rfl rfl [0, 1, 2, 3, 4, 5, 6, 7, 8, 9, 10, 11, 12, 13, 14] [] rfl rfl (by decide) (by decide) (by decide) (ci := 7) (q0 := 0) rfl rfl (by decide) (by decide) (le_ble rfl) ⟨by decide, by decide⟩ dX7_readsItem_21 ?_
    rintro r9 u9 h9
    subst h9
    refine J.wsEq (ws2 := moC g ad th (cC.1, cC.2.1, cC.2.2.1, cC.2.2.2.1, ((T.length : Nat) : Int)) cT cL (((acN T t 115 115 : Nat) : Int), cP.2.1, cP.2.2.1, cP.2.2.2.1, cP.2.2.2.2)) rfl ?_
    refine j_ifb_eq F (tgt := 31) dX7_readsItem_24 (by decide)  (fun c24 => ?_) (fun c24 => ?_)
    · refine J.wsEq (ws2 := moC g ad th (cC.1, cC.2.1, cC.2.2.1, cC.2.2.2.1, ((T.length : Nat) : Int)) cT cL (((t : Nat) : Int), cP.2.1, cP.2.2.1, cP.2.2.2.1, cP.2.2.2.2)) (by first | (rw [acN_f c24]) | (dsimp only; rw [acN_f c24])) ?_
      refine j_aload_n F dX7_readsItem_31 rfl 0 rfl ?_
      refine j_bipush F dX7_readsItem_32 (by decide) ?_
      refine j_bipush F dX7_readsItem_34 (by decide) ?_
      refine j_callV_I F (As := [.int (iI 109), .int (iI 109)]) (wr := []) (st := [.ref (ad 0)]) (c_X7_accepts hfl D g z ad th (cC.1, cC.2.1, cC.2.2.1, cC.2.2.2.1, ((T.length : Nat) : Int)) cT cL (((t : Nat) : Int), cP.2.1, cP.2.2.1, cP.2.2.2.1, cP.2.2.2.2) T t 109 109 hT htr (by omega) (by omega)) (idx := 183) (C := RX7) gX7_readsItem_X7_accepts rfl rfl [0, 1, 2, 3, 4, 5, 6, 7, 8, 9, 10, 11, 12, 13, 14] [] rfl rfl (by decide) (by decide) (by decide) (ci := 7) (q0 := 0) rfl rfl (by decide) (by decide) (le_ble rfl) ⟨by decide, by decide⟩ dX7_readsItem_36 ?_
      rintro r9 u9 h9
      subst h9
      refine J.wsEq (ws2 := moC g ad th (cC.1, cC.2.1, cC.2.2.1, cC.2.2.2.1, ((T.length : Nat) : Int)) cT cL (((acN T t 109 109 : Nat) : Int), cP.2.1, cP.2.2.1, cP.2.2.2.1, cP.2.2.2.2)) rfl ?_
      refine j_ifb_eq F (tgt := 46) dX7_readsItem_39 (by decide)  (fun c39 => ?_) (fun c39 => ?_)
      · have hk9 : kindT ((sgT T t : Nat) : Int) = -1 := by unfold kindT; rw [if_neg (by omega), if_neg (by omega), if_neg (by omega)]
        have e0 : (rdI T t 0 0) = (0, t, -1, 0, 0) := by unfold rdI; rw [if_pos hk9]
        refine j_iconst F dX7_readsItem_46 ?_
        refine j_putf F (ref := "CairnGameModel") (C := RX7) (T := TX7) (N := 27) (ci := 7) (index := 196) (ty := .int) (ws' := moC g ad th (cC.1, cC.2.1, cC.2.2.1, cC.2.2.2.1, ((T.length : Nat) : Int)) cT cL (((acN T t 109 109 : Nat) : Int), (-1), cP.2.2.1, cP.2.2.2.1, cP.2.2.2.2)) (fun w h => (List.mem_cons_of_mem _ (List.mem_append_right _ h))) tyX7 tyX7_ok nmX7 0 rfl rfl 23 (by decide) (List.mem_cons_of_mem _ (List.mem_append_left _ (List.mem_append_left _ (List.mem_of_getElem? (l := wsX7_readsItem_r1) (i := 0) rfl)))) rfl rfl rfl rfl rfl (lt_ble rfl) rfl dX7_readsItem_47 ?_
        refine J.wsEq (ws2 := moC g ad th (cC.1, cC.2.1, cC.2.2.1, cC.2.2.2.1, ((T.length : Nat) : Int)) cT cL (((t : Nat) : Int), (-1), cP.2.2.1, cP.2.2.2.1, cP.2.2.2.2)) (by first | (rw [acN_f c39]) | (dsimp only; rw [acN_f c39])) ?_
        refine j_aload_n F dX7_readsItem_50 rfl 0 rfl ?_
        refine j_getf F (ref := "CairnGameModel") (C := RX7) (T := TX7) (N := 27) (ci := 7) (index := 196) (v := .int (iI (-1))) (fun w h => (List.mem_cons_of_mem _ (List.mem_append_right _ h))) 0 rfl rfl 23 (by decide) (List.mem_cons_of_mem _ (List.mem_append_left _ (List.mem_append_left _ (List.mem_of_getElem? (l := wsX7_readsItem_r1) (i := 0) rfl)))) rfl rfl dX7_readsItem_51 ?_
        refine j_iconst F dX7_readsItem_54 ?_
        refine j_icmp_eq F (tgt := 65) dX7_readsItem_55 (by decide) ⟨(by unfold rg; omega), (by unfold rg; omega)⟩ (fun c55 => ?_) (fun h9 => by exfalso; omega)
        refine j_iconst F dX7_readsItem_65 ?_
        refine J.wsEq (ws2 := moC g ad th (cC.1, cC.2.1, cC.2.2.1, cC.2.2.2.1, ((T.length : Nat) : Int)) cT cL ((((rdI T t 0 0).2.1 : Nat) : Int), (-1), cP.2.2.1, cP.2.2.2.1, cP.2.2.2.2)) (by first | (rw [e0]) | (dsimp only; rw [e0])) ?_
        exact ret _ (-1, cP.2.2.1, cP.2.2.2.1, cP.2.2.2.2) 0 0 _ _ dX7_readsItem_66 (by decide) (by decide) (⟨fun w => by rw [e0] at w; exact absurd (show (0 : Int) = 1 from w) (by decide), by rw [e0]⟩)
      · have hkt : kindT ((sgT T t : Nat) : Int) = 2 := by rw [show sgT T t = 109 by omega]; rfl
        have hk1 : ¬ kindT ((sgT T t : Nat) : Int) = -1 := by rw [hkt]; decide
        have hlk : lnkT 2 = 43 := rfl
        have hhb := rdH_b T (t + 1)
        have hab := rdA_b T ((rdH T (t + 1)).2 + 1) 2
        refine j_iconst F dX7_readsItem_42 ?_
        refine j_goto F (tgt := 47) dX7_readsItem_43 (by decide) ?_
        refine j_putf F (ref := "CairnGameModel") (C := RX7) (T := TX7) (N := 27) (ci := 7) (index := 196) (ty := .int) (ws' := moC g ad th (cC.1, cC.2.1, cC.2.2.1, cC.2.2.2.1, ((T.length : Nat) : Int)) cT cL (((acN T t 109 109 : Nat) : Int), 2, cP.2.2.1, cP.2.2.2.1, cP.2.2.2.2)) (fun w h => (List.mem_cons_of_mem _ (List.mem_append_right _ h))) tyX7 tyX7_ok nmX7 0 rfl rfl 23 (by decide) (List.mem_cons_of_mem _ (List.mem_append_left _ (List.mem_append_left _ (List.mem_of_getElem? (l := wsX7_readsItem_r1) (i := 0) rfl)))) rfl rfl rfl rfl rfl (lt_ble rfl) rfl dX7_readsItem_47 ?_
        refine J.wsEq (ws2 := moC g ad th (cC.1, cC.2.1, cC.2.2.1, cC.2.2.2.1, ((T.length : Nat) : Int)) cT cL (((t + 1 : Nat) : Int), 2, cP.2.2.1, cP.2.2.2.1, cP.2.2.2.2)) (by first | (rw [acN_t c39]) | (dsimp only; rw [acN_t c39])) ?_
        refine j_aload_n F dX7_readsItem_50 rfl 0 rfl ?_
        refine j_getf F (ref := "CairnGameModel") (C := RX7) (T := TX7) (N := 27) (ci := 7) (index := 196) (v := .int (iI 2)) (fun w h => (List.mem_cons_of_mem _ (List.mem_append_right _ h))) 0 rfl rfl 23 (by decide) (List.mem_cons_of_mem _ (List.mem_append_left _ (List.mem_append_left _ (List.mem_of_getElem? (l := wsX7_readsItem_r1) (i := 0) rfl)))) rfl rfl dX7_readsItem_51 ?_
        refine j_iconst F dX7_readsItem_54 ?_
        refine j_icmp_eq F (tgt := 65) dX7_readsItem_55 (by decide) ⟨(by unfold rg; omega), (by unfold rg; omega)⟩ (fun h9 => by exfalso; omega) (fun c55 => ?_)
        refine j_aload_n F dX7_readsItem_58 rfl 0 rfl ?_
        refine j_callV_I F (As := []) (wr := []) (st := []) (c_X7_readsHeap hfl D g z ad th (cC.1, cC.2.1, cC.2.2.1, cC.2.2.2.1, ((T.length : Nat) : Int)) cT cL (((t + 1 : Nat) : Int), 2, cP.2.2.1, cP.2.2.2.1, cP.2.2.2.2) T (t + 1) hT htr (by omega)) (idx := 193) (C := RX7) gX7_readsItem_X7_readsHeap rfl rfl [0, 1, 2, 3, 4, 5, 6, 7, 8, 9, 10, 11, 12, 13, 14] [] rfl rfl (by decide) (by decide) (by decide) (ci := 7) (q0 := 0) rfl rfl (by decide) (by decide) (le_ble rfl) ⟨by decide, by decide⟩ dX7_readsItem_59 ?_
        rintro r9 uh ⟨h8, h9⟩
        subst h9
        refine J.wsEq (ws2 := moC g ad th (cC.1, cC.2.1, cC.2.2.1, cC.2.2.2.1, ((T.length : Nat) : Int)) cT cL ((((rdH T (t + 1)).2 : Nat) : Int), 2, cP.2.2.1, cP.2.2.2.1, uh)) rfl ?_
        refine j_ifb_ne F (tgt := 67) dX7_readsItem_62 (by decide)  (fun c62 => ?_) (fun c62 => ?_)
        · have hh1 : ¬ (rdH T (t + 1)).1 = -1 := c62
          have h88 := h8 hh1
          refine j_aload_n F dX7_readsItem_67 rfl 0 rfl ?_
          refine j_aload_n F dX7_readsItem_68 rfl 0 rfl ?_
          refine j_getf F (ref := "CairnGameModel") (C := RX7) (T := TX7) (N := 27) (ci := 7) (index := 187) (v := .int (iI uh)) (fun w h => (List.mem_cons_of_mem _ (List.mem_append_right _ h))) 0 rfl rfl 26 (by decide) (List.mem_cons_of_mem _ (List.mem_append_left _ (List.mem_append_left _ (List.mem_of_getElem? (l := wsX7_readsItem_r1) (i := 1) rfl)))) rfl rfl dX7_readsItem_69 ?_
          refine j_putf F (ref := "CairnGameModel") (C := RX7) (T := TX7) (N := 27) (ci := 7) (index := 199) (ty := .int) (ws' := moC g ad th (cC.1, cC.2.1, cC.2.2.1, cC.2.2.2.1, ((T.length : Nat) : Int)) cT cL ((((rdH T (t + 1)).2 : Nat) : Int), 2, uh, cP.2.2.2.1, uh)) (fun w h => (List.mem_cons_of_mem _ (List.mem_append_right _ h))) tyX7 tyX7_ok nmX7 0 rfl rfl 24 (by decide) (List.mem_cons_of_mem _ (List.mem_append_left _ (List.mem_append_left _ (List.mem_of_getElem? (l := wsX7_readsItem_r1) (i := 2) rfl)))) rfl rfl rfl rfl rfl (lt_ble rfl) rfl dX7_readsItem_72 ?_
          refine j_aload_n F dX7_readsItem_75 rfl 0 rfl ?_
          refine j_getf F (ref := "CairnGameModel") (C := RX7) (T := TX7) (N := 27) (ci := 7) (index := 196) (v := .int (iI 2)) (fun w h => (List.mem_cons_of_mem _ (List.mem_append_right _ h))) 0 rfl rfl 23 (by decide) (List.mem_cons_of_mem _ (List.mem_append_left _ (List.mem_append_left _ (List.mem_of_getElem? (l := wsX7_readsItem_r1) (i := 0) rfl)))) rfl rfl dX7_readsItem_76 ?_
          refine j_if_ne F (tgt := 87) dX7_readsItem_79 (by decide) (by unfold rg; omega) (fun c79 => ?_) (fun h9 => by exfalso; omega)
          refine j_aload_n F dX7_readsItem_87 rfl 0 rfl ?_
          refine j_getf F (ref := "CairnGameModel") (C := RX7) (T := TX7) (N := 27) (ci := 7) (index := 196) (v := .int (iI 2)) (fun w h => (List.mem_cons_of_mem _ (List.mem_append_right _ h))) 0 rfl rfl 23 (by decide) (List.mem_cons_of_mem _ (List.mem_append_left _ (List.mem_append_left _ (List.mem_of_getElem? (l := wsX7_readsItem_r1) (i := 0) rfl)))) rfl rfl dX7_readsItem_88 ?_
          refine j_iconst F dX7_readsItem_91 ?_
          refine j_icmp_ne F (tgt := 100) dX7_readsItem_92 (by decide) ⟨(by unfold rg; omega), (by unfold rg; omega)⟩ (fun c92 => ?_) (fun h9 => by exfalso; omega)
          refine j_bipush F dX7_readsItem_100 (by decide) ?_
          refine j_istore_n F (lv' := [(1, .int (iI 43)), (0, .ref (ad 0))]) dX7_readsItem_102 rfl (by decide) rfl ?_
          refine j_aload_n F dX7_readsItem_103 rfl 1 rfl ?_
          refine j_iload_n F dX7_readsItem_104 rfl 0 rfl ?_
          refine j_iload_n F dX7_readsItem_105 rfl 0 rfl ?_
          refine j_callV_I F (As := [.int (iI 43), .int (iI 43)]) (wr := []) (st := []) (c_X7_accepts hfl D g z ad th (cC.1, cC.2.1, cC.2.2.1, cC.2.2.2.1, ((T.length : Nat) : Int)) cT cL ((((rdH T (t + 1)).2 : Nat) : Int), 2, uh, cP.2.2.2.1, uh) T ((rdH T (t + 1)).2) 43 43 hT htr (by omega) (by omega)) (idx := 183) (C := RX7) gX7_readsItem_X7_accepts rfl rfl [0, 1, 2, 3, 4, 5, 6, 7, 8, 9, 10, 11, 12, 13, 14] [] rfl rfl (by decide) (by decide) (by decide) (ci := 7) (q0 := 0) rfl rfl (by decide) (by decide) (le_ble rfl) ⟨by decide, by decide⟩ dX7_readsItem_106 ?_
          rintro r9 u9 h9
          subst h9
          refine J.wsEq (ws2 := moC g ad th (cC.1, cC.2.1, cC.2.2.1, cC.2.2.2.1, ((T.length : Nat) : Int)) cT cL (((acN T ((rdH T (t + 1)).2) 43 43 : Nat) : Int), 2, uh, cP.2.2.2.1, uh)) rfl ?_
          refine j_ifb_eq F (tgt := 161) dX7_readsItem_109 (by decide)  (fun c109 => ?_) (fun c109 => ?_)
          · have e0 : (rdI T t 0 0) = (0, (rdH T (t + 1)).2, kindT ((sgT T t : Nat) : Int), (rdH T (t + 1)).1, 0) := by unfold rdI; rw [if_neg hk1, if_neg hh1, if_pos (by rw [hkt, hlk]; omega)]
            refine j_iconst F dX7_readsItem_161 ?_
            refine J.wsEq (ws2 := moC g ad th (cC.1, cC.2.1, cC.2.2.1, cC.2.2.2.1, ((T.length : Nat) : Int)) cT cL ((((rdI T t 0 0).2.1 : Nat) : Int), 2, uh, cP.2.2.2.1, uh)) (by first | (rw [acN_f c109, e0]) | (dsimp only; rw [acN_f c109, e0])) ?_
            exact ret _ (2, uh, cP.2.2.2.1, uh) 0 0 _ _ dX7_readsItem_162 (by decide) (by decide) (⟨fun w => by rw [e0] at w; exact absurd (show (0 : Int) = 1 from w) (by decide), by rw [e0]⟩)
          · have hs1 : sgT T (rdH T (t + 1)).2 = lnkT (kindT ((sgT T t : Nat) : Int)) := by rw [hkt, hlk]; omega
            refine J.wsEq (ws2 := moC g ad th (cC.1, cC.2.1, cC.2.2.1, cC.2.2.2.1, ((T.length : Nat) : Int)) cT cL ((((rdH T (t + 1)).2 + 1 : Nat) : Int), 2, uh, cP.2.2.2.1, uh)) (by first | (rw [acN_t c109]) | (dsimp only; rw [acN_t c109])) ?_
            refine j_aload_n F dX7_readsItem_112 rfl 1 rfl ?_
            refine j_getf F (ref := "CairnGameModel") (C := RX7) (T := TX7) (N := 27) (ci := 7) (index := 196) (v := .int (iI 2)) (fun w h => (List.mem_cons_of_mem _ (List.mem_append_right _ h))) 0 rfl rfl 23 (by decide) (List.mem_cons_of_mem _ (List.mem_append_left _ (List.mem_append_left _ (List.mem_of_getElem? (l := wsX7_readsItem_r1) (i := 0) rfl)))) rfl rfl dX7_readsItem_113 ?_
            refine j_if_ne F (tgt := 130) dX7_readsItem_116 (by decide) (by unfold rg; omega) (fun c116 => ?_) (fun h9 => by exfalso; omega)
            refine j_aload_n F dX7_readsItem_130 rfl 1 rfl ?_
            refine j_getf F (ref := "CairnGameModel") (C := RX7) (T := TX7) (N := 27) (ci := 7) (index := 196) (v := .int (iI 2)) (fun w h => (List.mem_cons_of_mem _ (List.mem_append_right _ h))) 0 rfl rfl 23 (by decide) (List.mem_cons_of_mem _ (List.mem_append_left _ (List.mem_append_left _ (List.mem_of_getElem? (l := wsX7_readsItem_r1) (i := 0) rfl)))) rfl rfl dX7_readsItem_131 ?_
            refine j_iconst F dX7_readsItem_134 ?_
            refine j_icmp_ne F (tgt := 150) dX7_readsItem_135 (by decide) ⟨(by unfold rg; omega), (by unfold rg; omega)⟩ (fun c135 => ?_) (fun h9 => by exfalso; omega)
            refine j_aload_n F dX7_readsItem_150 rfl 1 rfl ?_
            refine j_callV_I F (As := []) (wr := []) (st := []) (c_X7_readsOther hfl D g z ad th (cC.1, cC.2.1, cC.2.2.1, cC.2.2.2.1, ((T.length : Nat) : Int)) cT cL ((((rdH T (t + 1)).2 + 1 : Nat) : Int), 2, uh, cP.2.2.2.1, uh) T ((rdH T (t + 1)).2 + 1) hT htr (by omega)) (idx := 205) (C := RX7) gX7_readsItem_X7_readsOther rfl rfl [0, 1, 2, 3, 4, 5, 6, 7, 8, 9, 10, 11, 12, 13, 14] [] rfl rfl (by decide) (by decide) (by decide) (ci := 7) (q0 := 0) rfl rfl (by decide) (by decide) (le_ble rfl) ⟨by decide, by decide⟩ dX7_readsItem_151 ?_
            rintro r9 ua ⟨h7, h9⟩
            subst h9
            rw [show rdH T ((rdH T (t + 1)).2 + 1) = (rdA T ((rdH T (t + 1)).2 + 1) 2) from rfl] at h7
            refine J.wsEq (ws2 := moC g ad th (cC.1, cC.2.1, cC.2.2.1, cC.2.2.2.1, ((T.length : Nat) : Int)) cT cL ((((rdA T ((rdH T (t + 1)).2 + 1) 2).2 : Nat) : Int), 2, uh, ua, ua)) rfl ?_
            refine j_ifb_eq F (tgt := 161) dX7_readsItem_154 (by decide)  (fun c154 => ?_) (fun c154 => ?_)
            · have hx1 : (rdA T ((rdH T (t + 1)).2 + 1) 2).1 = -1 := Decidable.not_not.mp c154
              have e0 : (rdI T t 0 0) = (0, (rdA T ((rdH T (t + 1)).2 + 1) 2).2, kindT ((sgT T t : Nat) : Int), (rdH T (t + 1)).1, (rdA T ((rdH T (t + 1)).2 + 1) 2).1) := by unfold rdI; rw [if_neg hk1, if_neg hh1, if_neg (fun z9 => z9 hs1), hkt, if_pos hx1]
              refine j_iconst F dX7_readsItem_161 ?_
              refine J.wsEq (ws2 := moC g ad th (cC.1, cC.2.1, cC.2.2.1, cC.2.2.2.1, ((T.length : Nat) : Int)) cT cL ((((rdI T t 0 0).2.1 : Nat) : Int), 2, uh, ua, ua)) (by first | (rw [e0]) | (dsimp only; rw [e0])) ?_
              exact ret _ (2, uh, ua, ua) 0 0 _ _ dX7_readsItem_162 (by decide) (by decide) (⟨fun w => by rw [e0] at w; exact absurd (show (0 : Int) = 1 from w) (by decide), by rw [e0]⟩)
            · have hx1 : ¬ (rdA T ((rdH T (t + 1)).2 + 1) 2).1 = -1 := c154
              have h77 := h7 hx1
              have e0 : (rdI T t 0 0) = (1, (rdA T ((rdH T (t + 1)).2 + 1) 2).2, kindT ((sgT T t : Nat) : Int), (rdH T (t + 1)).1, (rdA T ((rdH T (t + 1)).2 + 1) 2).1) := by unfold rdI; rw [if_neg hk1, if_neg hh1, if_neg (fun z9 => z9 hs1), hkt, if_neg hx1]
              refine j_iconst F dX7_readsItem_157 ?_
              refine j_goto F (tgt := 162) dX7_readsItem_158 (by decide) ?_
              refine J.wsEq (ws2 := moC g ad th (cC.1, cC.2.1, cC.2.2.1, cC.2.2.2.1, ((T.length : Nat) : Int)) cT cL ((((rdI T t 0 0).2.1 : Nat) : Int), 2, uh, ua, ua)) (by first | (rw [e0]) | (dsimp only; rw [e0])) ?_
              exact ret _ (2, uh, ua, ua) 0 0 _ _ dX7_readsItem_162 (by decide) (by decide) (⟨fun _ => by rw [e0]; exact ⟨hkt.symm, h88, h77⟩, by rw [e0]⟩)
        · have hx0 : (rdH T (t + 1)).1 = -1 := by omega
          have e0 : (rdI T t 0 0) = (0, (rdH T (t + 1)).2, kindT ((sgT T t : Nat) : Int), -1, 0) := by unfold rdI; rw [if_neg hk1, if_pos hx0]
          refine j_iconst F dX7_readsItem_65 ?_
          refine J.wsEq (ws2 := moC g ad th (cC.1, cC.2.1, cC.2.2.1, cC.2.2.2.1, ((T.length : Nat) : Int)) cT cL ((((rdI T t 0 0).2.1 : Nat) : Int), 2, cP.2.2.1, cP.2.2.2.1, uh)) (by first | (rw [e0]) | (dsimp only; rw [e0])) ?_
          exact ret _ (2, cP.2.2.1, cP.2.2.2.1, uh) 0 0 _ _ dX7_readsItem_66 (by decide) (by decide) (⟨fun w => by rw [e0] at w; exact absurd (show (0 : Int) = 1 from w) (by decide), by rw [e0]⟩)
    · have hkt : kindT ((sgT T t : Nat) : Int) = 1 := by rw [show sgT T t = 115 by omega]; rfl
      have hk1 : ¬ kindT ((sgT T t : Nat) : Int) = -1 := by rw [hkt]; decide
      have hlk : lnkT 1 = 47 := rfl
      have hhb := rdH_b T (t + 1)
      have hab := rdA_b T ((rdH T (t + 1)).2 + 1) 1
      refine j_iconst F dX7_readsItem_27 ?_
      refine j_goto F (tgt := 47) dX7_readsItem_28 (by decide) ?_
      refine j_putf F (ref := "CairnGameModel") (C := RX7) (T := TX7) (N := 27) (ci := 7) (index := 196) (ty := .int) (ws' := moC g ad th (cC.1, cC.2.1, cC.2.2.1, cC.2.2.2.1, ((T.length : Nat) : Int)) cT cL (((acN T t 115 115 : Nat) : Int), 1, cP.2.2.1, cP.2.2.2.1, cP.2.2.2.2)) (fun w h => (List.mem_cons_of_mem _ (List.mem_append_right _ h))) tyX7 tyX7_ok nmX7 0 rfl rfl 23 (by decide) (List.mem_cons_of_mem _ (List.mem_append_left _ (List.mem_append_left _ (List.mem_of_getElem? (l := wsX7_readsItem_r1) (i := 0) rfl)))) rfl rfl rfl rfl rfl (lt_ble rfl) rfl dX7_readsItem_47 ?_
      refine J.wsEq (ws2 := moC g ad th (cC.1, cC.2.1, cC.2.2.1, cC.2.2.2.1, ((T.length : Nat) : Int)) cT cL (((t + 1 : Nat) : Int), 1, cP.2.2.1, cP.2.2.2.1, cP.2.2.2.2)) (by first | (rw [acN_t c24]) | (dsimp only; rw [acN_t c24])) ?_
      refine j_aload_n F dX7_readsItem_50 rfl 0 rfl ?_
      refine j_getf F (ref := "CairnGameModel") (C := RX7) (T := TX7) (N := 27) (ci := 7) (index := 196) (v := .int (iI 1)) (fun w h => (List.mem_cons_of_mem _ (List.mem_append_right _ h))) 0 rfl rfl 23 (by decide) (List.mem_cons_of_mem _ (List.mem_append_left _ (List.mem_append_left _ (List.mem_of_getElem? (l := wsX7_readsItem_r1) (i := 0) rfl)))) rfl rfl dX7_readsItem_51 ?_
      refine j_iconst F dX7_readsItem_54 ?_
      refine j_icmp_eq F (tgt := 65) dX7_readsItem_55 (by decide) ⟨(by unfold rg; omega), (by unfold rg; omega)⟩ (fun h9 => by exfalso; omega) (fun c55 => ?_)
      refine j_aload_n F dX7_readsItem_58 rfl 0 rfl ?_
      refine j_callV_I F (As := []) (wr := []) (st := []) (c_X7_readsHeap hfl D g z ad th (cC.1, cC.2.1, cC.2.2.1, cC.2.2.2.1, ((T.length : Nat) : Int)) cT cL (((t + 1 : Nat) : Int), 1, cP.2.2.1, cP.2.2.2.1, cP.2.2.2.2) T (t + 1) hT htr (by omega)) (idx := 193) (C := RX7) gX7_readsItem_X7_readsHeap rfl rfl [0, 1, 2, 3, 4, 5, 6, 7, 8, 9, 10, 11, 12, 13, 14] [] rfl rfl (by decide) (by decide) (by decide) (ci := 7) (q0 := 0) rfl rfl (by decide) (by decide) (le_ble rfl) ⟨by decide, by decide⟩ dX7_readsItem_59 ?_
      rintro r9 uh ⟨h8, h9⟩
      subst h9
      refine J.wsEq (ws2 := moC g ad th (cC.1, cC.2.1, cC.2.2.1, cC.2.2.2.1, ((T.length : Nat) : Int)) cT cL ((((rdH T (t + 1)).2 : Nat) : Int), 1, cP.2.2.1, cP.2.2.2.1, uh)) rfl ?_
      refine j_ifb_ne F (tgt := 67) dX7_readsItem_62 (by decide)  (fun c62 => ?_) (fun c62 => ?_)
      · have hh1 : ¬ (rdH T (t + 1)).1 = -1 := c62
        have h88 := h8 hh1
        refine j_aload_n F dX7_readsItem_67 rfl 0 rfl ?_
        refine j_aload_n F dX7_readsItem_68 rfl 0 rfl ?_
        refine j_getf F (ref := "CairnGameModel") (C := RX7) (T := TX7) (N := 27) (ci := 7) (index := 187) (v := .int (iI uh)) (fun w h => (List.mem_cons_of_mem _ (List.mem_append_right _ h))) 0 rfl rfl 26 (by decide) (List.mem_cons_of_mem _ (List.mem_append_left _ (List.mem_append_left _ (List.mem_of_getElem? (l := wsX7_readsItem_r1) (i := 1) rfl)))) rfl rfl dX7_readsItem_69 ?_
        refine j_putf F (ref := "CairnGameModel") (C := RX7) (T := TX7) (N := 27) (ci := 7) (index := 199) (ty := .int) (ws' := moC g ad th (cC.1, cC.2.1, cC.2.2.1, cC.2.2.2.1, ((T.length : Nat) : Int)) cT cL ((((rdH T (t + 1)).2 : Nat) : Int), 1, uh, cP.2.2.2.1, uh)) (fun w h => (List.mem_cons_of_mem _ (List.mem_append_right _ h))) tyX7 tyX7_ok nmX7 0 rfl rfl 24 (by decide) (List.mem_cons_of_mem _ (List.mem_append_left _ (List.mem_append_left _ (List.mem_of_getElem? (l := wsX7_readsItem_r1) (i := 2) rfl)))) rfl rfl rfl rfl rfl (lt_ble rfl) rfl dX7_readsItem_72 ?_
        refine j_aload_n F dX7_readsItem_75 rfl 0 rfl ?_
        refine j_getf F (ref := "CairnGameModel") (C := RX7) (T := TX7) (N := 27) (ci := 7) (index := 196) (v := .int (iI 1)) (fun w h => (List.mem_cons_of_mem _ (List.mem_append_right _ h))) 0 rfl rfl 23 (by decide) (List.mem_cons_of_mem _ (List.mem_append_left _ (List.mem_append_left _ (List.mem_of_getElem? (l := wsX7_readsItem_r1) (i := 0) rfl)))) rfl rfl dX7_readsItem_76 ?_
        refine j_if_ne F (tgt := 87) dX7_readsItem_79 (by decide) (by unfold rg; omega) (fun c79 => ?_) (fun h9 => by exfalso; omega)
        refine j_aload_n F dX7_readsItem_87 rfl 0 rfl ?_
        refine j_getf F (ref := "CairnGameModel") (C := RX7) (T := TX7) (N := 27) (ci := 7) (index := 196) (v := .int (iI 1)) (fun w h => (List.mem_cons_of_mem _ (List.mem_append_right _ h))) 0 rfl rfl 23 (by decide) (List.mem_cons_of_mem _ (List.mem_append_left _ (List.mem_append_left _ (List.mem_of_getElem? (l := wsX7_readsItem_r1) (i := 0) rfl)))) rfl rfl dX7_readsItem_88 ?_
        refine j_iconst F dX7_readsItem_91 ?_
        refine j_icmp_ne F (tgt := 100) dX7_readsItem_92 (by decide) ⟨(by unfold rg; omega), (by unfold rg; omega)⟩ (fun h9 => by exfalso; omega) (fun c92 => ?_)
        refine j_bipush F dX7_readsItem_95 (by decide) ?_
        refine j_goto F (tgt := 102) dX7_readsItem_97 (by decide) ?_
        refine j_istore_n F (lv' := [(1, .int (iI 47)), (0, .ref (ad 0))]) dX7_readsItem_102 rfl (by decide) rfl ?_
        refine j_aload_n F dX7_readsItem_103 rfl 1 rfl ?_
        refine j_iload_n F dX7_readsItem_104 rfl 0 rfl ?_
        refine j_iload_n F dX7_readsItem_105 rfl 0 rfl ?_
        refine j_callV_I F (As := [.int (iI 47), .int (iI 47)]) (wr := []) (st := []) (c_X7_accepts hfl D g z ad th (cC.1, cC.2.1, cC.2.2.1, cC.2.2.2.1, ((T.length : Nat) : Int)) cT cL ((((rdH T (t + 1)).2 : Nat) : Int), 1, uh, cP.2.2.2.1, uh) T ((rdH T (t + 1)).2) 47 47 hT htr (by omega) (by omega)) (idx := 183) (C := RX7) gX7_readsItem_X7_accepts rfl rfl [0, 1, 2, 3, 4, 5, 6, 7, 8, 9, 10, 11, 12, 13, 14] [] rfl rfl (by decide) (by decide) (by decide) (ci := 7) (q0 := 0) rfl rfl (by decide) (by decide) (le_ble rfl) ⟨by decide, by decide⟩ dX7_readsItem_106 ?_
        rintro r9 u9 h9
        subst h9
        refine J.wsEq (ws2 := moC g ad th (cC.1, cC.2.1, cC.2.2.1, cC.2.2.2.1, ((T.length : Nat) : Int)) cT cL (((acN T ((rdH T (t + 1)).2) 47 47 : Nat) : Int), 1, uh, cP.2.2.2.1, uh)) rfl ?_
        refine j_ifb_eq F (tgt := 161) dX7_readsItem_109 (by decide)  (fun c109 => ?_) (fun c109 => ?_)
        · have e0 : (rdI T t 0 0) = (0, (rdH T (t + 1)).2, kindT ((sgT T t : Nat) : Int), (rdH T (t + 1)).1, 0) := by unfold rdI; rw [if_neg hk1, if_neg hh1, if_pos (by rw [hkt, hlk]; omega)]
          refine j_iconst F dX7_readsItem_161 ?_
          refine J.wsEq (ws2 := moC g ad th (cC.1, cC.2.1, cC.2.2.1, cC.2.2.2.1, ((T.length : Nat) : Int)) cT cL ((((rdI T t 0 0).2.1 : Nat) : Int), 1, uh, cP.2.2.2.1, uh)) (by first | (rw [acN_f c109, e0]) | (dsimp only; rw [acN_f c109, e0])) ?_
          exact ret _ (1, uh, cP.2.2.2.1, uh) 0 0 _ _ dX7_readsItem_162 (by decide) (by decide) (⟨fun w => by rw [e0] at w; exact absurd (show (0 : Int) = 1 from w) (by decide), by rw [e0]⟩)
        · have hs1 : sgT T (rdH T (t + 1)).2 = lnkT (kindT ((sgT T t : Nat) : Int)) := by rw [hkt, hlk]; omega
          refine J.wsEq (ws2 := moC g ad th (cC.1, cC.2.1, cC.2.2.1, cC.2.2.2.1, ((T.length : Nat) : Int)) cT cL ((((rdH T (t + 1)).2 + 1 : Nat) : Int), 1, uh, cP.2.2.2.1, uh)) (by first | (rw [acN_t c109]) | (dsimp only; rw [acN_t c109])) ?_
          refine j_aload_n F dX7_readsItem_112 rfl 1 rfl ?_
          refine j_getf F (ref := "CairnGameModel") (C := RX7) (T := TX7) (N := 27) (ci := 7) (index := 196) (v := .int (iI 1)) (fun w h => (List.mem_cons_of_mem _ (List.mem_append_right _ h))) 0 rfl rfl 23 (by decide) (List.mem_cons_of_mem _ (List.mem_append_left _ (List.mem_append_left _ (List.mem_of_getElem? (l := wsX7_readsItem_r1) (i := 0) rfl)))) rfl rfl dX7_readsItem_113 ?_
          refine j_if_ne F (tgt := 130) dX7_readsItem_116 (by decide) (by unfold rg; omega) (fun c116 => ?_) (fun h9 => by exfalso; omega)
          refine j_aload_n F dX7_readsItem_130 rfl 1 rfl ?_
          refine j_getf F (ref := "CairnGameModel") (C := RX7) (T := TX7) (N := 27) (ci := 7) (index := 196) (v := .int (iI 1)) (fun w h => (List.mem_cons_of_mem _ (List.mem_append_right _ h))) 0 rfl rfl 23 (by decide) (List.mem_cons_of_mem _ (List.mem_append_left _ (List.mem_append_left _ (List.mem_of_getElem? (l := wsX7_readsItem_r1) (i := 0) rfl)))) rfl rfl dX7_readsItem_131 ?_
          refine j_iconst F dX7_readsItem_134 ?_
          refine j_icmp_ne F (tgt := 150) dX7_readsItem_135 (by decide) ⟨(by unfold rg; omega), (by unfold rg; omega)⟩ (fun h9 => by exfalso; omega) (fun c135 => ?_)
          refine j_aload_n F dX7_readsItem_138 rfl 1 rfl ?_
          refine j_bipush F dX7_readsItem_139 (by decide) ?_
          refine j_callV_I F (As := [.int (iI 6)]) (wr := []) (st := []) (c_X7_readsAmount hfl D g z ad th (cC.1, cC.2.1, cC.2.2.1, cC.2.2.2.1, ((T.length : Nat) : Int)) cT cL ((((rdH T (t + 1)).2 + 1 : Nat) : Int), 1, uh, cP.2.2.2.1, uh) T ((rdH T (t + 1)).2 + 1) 1 hT htr (by omega) (by decide)) (idx := 202) (C := RX7) gX7_readsItem_X7_readsAmount rfl rfl [0, 1, 2, 3, 4, 5, 6, 7, 8, 9, 10, 11, 12, 13, 14] [] rfl rfl (by decide) (by decide) (by decide) (ci := 7) (q0 := 0) rfl rfl (by decide) (by decide) (le_ble rfl) ⟨by decide, by decide⟩ dX7_readsItem_141 ?_
          rintro r9 ua ⟨h7, h9⟩
          subst h9
          refine J.wsEq (ws2 := moC g ad th (cC.1, cC.2.1, cC.2.2.1, cC.2.2.2.1, ((T.length : Nat) : Int)) cT cL ((((rdA T ((rdH T (t + 1)).2 + 1) 1).2 : Nat) : Int), 1, uh, ua, uh)) rfl ?_
          refine j_ifb_eq F (tgt := 161) dX7_readsItem_144 (by decide)  (fun c144 => ?_) (fun c144 => ?_)
          · have hx1 : (rdA T ((rdH T (t + 1)).2 + 1) 1).1 = -1 := Decidable.not_not.mp c144
            have e0 : (rdI T t 0 0) = (0, (rdA T ((rdH T (t + 1)).2 + 1) 1).2, kindT ((sgT T t : Nat) : Int), (rdH T (t + 1)).1, (rdA T ((rdH T (t + 1)).2 + 1) 1).1) := by unfold rdI; rw [if_neg hk1, if_neg hh1, if_neg (fun z9 => z9 hs1), hkt, if_pos hx1]
            refine j_iconst F dX7_readsItem_161 ?_
            refine J.wsEq (ws2 := moC g ad th (cC.1, cC.2.1, cC.2.2.1, cC.2.2.2.1, ((T.length : Nat) : Int)) cT cL ((((rdI T t 0 0).2.1 : Nat) : Int), 1, uh, ua, uh)) (by first | (rw [e0]) | (dsimp only; rw [e0])) ?_
            exact ret _ (1, uh, ua, uh) 0 0 _ _ dX7_readsItem_162 (by decide) (by decide) (⟨fun w => by rw [e0] at w; exact absurd (show (0 : Int) = 1 from w) (by decide), by rw [e0]⟩)
          · have hx1 : ¬ (rdA T ((rdH T (t + 1)).2 + 1) 1).1 = -1 := c144
            have h77 := h7 hx1
            have e0 : (rdI T t 0 0) = (1, (rdA T ((rdH T (t + 1)).2 + 1) 1).2, kindT ((sgT T t : Nat) : Int), (rdH T (t + 1)).1, (rdA T ((rdH T (t + 1)).2 + 1) 1).1) := by unfold rdI; rw [if_neg hk1, if_neg hh1, if_neg (fun z9 => z9 hs1), hkt, if_neg hx1]
            refine j_goto F (tgt := 157) dX7_readsItem_147 (by decide) ?_
            refine j_iconst F dX7_readsItem_157 ?_
            refine j_goto F (tgt := 162) dX7_readsItem_158 (by decide) ?_
            refine J.wsEq (ws2 := moC g ad th (cC.1, cC.2.1, cC.2.2.1, cC.2.2.2.1, ((T.length : Nat) : Int)) cT cL ((((rdI T t 0 0).2.1 : Nat) : Int), 1, uh, ua, uh)) (by first | (rw [e0]) | (dsimp only; rw [e0])) ?_
            exact ret _ (1, uh, ua, uh) 0 0 _ _ dX7_readsItem_162 (by decide) (by decide) (⟨fun _ => by rw [e0]; exact ⟨hkt.symm, h88, h77⟩, by rw [e0]⟩)
      · have hx0 : (rdH T (t + 1)).1 = -1 := by omega
        have e0 : (rdI T t 0 0) = (0, (rdH T (t + 1)).2, kindT ((sgT T t : Nat) : Int), -1, 0) := by unfold rdI; rw [if_neg hk1, if_pos hx0]
        refine j_iconst F dX7_readsItem_65 ?_
        refine J.wsEq (ws2 := moC g ad th (cC.1, cC.2.1, cC.2.2.1, cC.2.2.2.1, ((T.length : Nat) : Int)) cT cL ((((rdI T t 0 0).2.1 : Nat) : Int), 1, cP.2.2.1, cP.2.2.2.1, uh)) (by first | (rw [e0]) | (dsimp only; rw [e0])) ?_
        exact ret _ (1, cP.2.2.1, cP.2.2.2.1, uh) 0 0 _ _ dX7_readsItem_66 (by decide) (by decide) (⟨fun w => by rw [e0] at w; exact absurd (show (0 : Int) = 1 from w) (by decide), by rw [e0]⟩)
  · have hkt : kindT ((sgT T t : Nat) : Int) = 0 := by rw [show sgT T t = 116 by omega]; rfl
    have hk1 : ¬ kindT ((sgT T t : Nat) : Int) = -1 := by rw [hkt]; decide
    have hlk : lnkT 0 = 45 := rfl
    have hhb := rdH_b T (t + 1)
    have hab := rdA_b T ((rdH T (t + 1)).2 + 1) 0
    refine j_iconst F dX7_readsItem_12 ?_
    refine j_goto F (tgt := 47) dX7_readsItem_13 (by decide) ?_
    refine j_putf F (ref := "CairnGameModel") (C := RX7) (T := TX7) (N := 27) (ci := 7) (index := 196) (ty := .int) (ws' := moC g ad th (cC.1, cC.2.1, cC.2.2.1, cC.2.2.2.1, ((T.length : Nat) : Int)) cT cL (((acN T t 116 116 : Nat) : Int), 0, cP.2.2.1, cP.2.2.2.1, cP.2.2.2.2)) (fun w h => (List.mem_cons_of_mem _ (List.mem_append_right _ h))) tyX7 tyX7_ok nmX7 0 rfl rfl 23 (by decide) (List.mem_cons_of_mem _ (List.mem_append_left _ (List.mem_append_left _ (List.mem_of_getElem? (l := wsX7_readsItem_r1) (i := 0) rfl)))) rfl rfl rfl rfl rfl (lt_ble rfl) rfl dX7_readsItem_47 ?_
    refine J.wsEq (ws2 := moC g ad th (cC.1, cC.2.1, cC.2.2.1, cC.2.2.2.1, ((T.length : Nat) : Int)) cT cL (((t + 1 : Nat) : Int), 0, cP.2.2.1, cP.2.2.2.1, cP.2.2.2.2)) (by first | (rw [acN_t c9]) | (dsimp only; rw [acN_t c9])) ?_
    refine j_aload_n F dX7_readsItem_50 rfl 0 rfl ?_
    refine j_getf F (ref := "CairnGameModel") (C := RX7) (T := TX7) (N := 27) (ci := 7) (index := 196) (v := .int (iI 0)) (fun w h => (List.mem_cons_of_mem _ (List.mem_append_right _ h))) 0 rfl rfl 23 (by decide) (List.mem_cons_of_mem _ (List.mem_append_left _ (List.mem_append_left _ (List.mem_of_getElem? (l := wsX7_readsItem_r1) (i := 0) rfl)))) rfl rfl dX7_readsItem_51 ?_
    refine j_iconst F dX7_readsItem_54 ?_
    refine j_icmp_eq F (tgt := 65) dX7_readsItem_55 (by decide) ⟨(by unfold rg; omega), (by unfold rg; omega)⟩ (fun h9 => by exfalso; omega) (fun c55 => ?_)
    refine j_aload_n F dX7_readsItem_58 rfl 0 rfl ?_
    refine j_callV_I F (As := []) (wr := []) (st := []) (c_X7_readsHeap hfl D g z ad th (cC.1, cC.2.1, cC.2.2.1, cC.2.2.2.1, ((T.length : Nat) : Int)) cT cL (((t + 1 : Nat) : Int), 0, cP.2.2.1, cP.2.2.2.1, cP.2.2.2.2) T (t + 1) hT htr (by omega)) (idx := 193) (C := RX7) gX7_readsItem_X7_readsHeap rfl rfl [0, 1, 2, 3, 4, 5, 6, 7, 8, 9, 10, 11, 12, 13, 14] [] rfl rfl (by decide) (by decide) (by decide) (ci := 7) (q0 := 0) rfl rfl (by decide) (by decide) (le_ble rfl) ⟨by decide, by decide⟩ dX7_readsItem_59 ?_
    rintro r9 uh ⟨h8, h9⟩
    subst h9
    refine J.wsEq (ws2 := moC g ad th (cC.1, cC.2.1, cC.2.2.1, cC.2.2.2.1, ((T.length : Nat) : Int)) cT cL ((((rdH T (t + 1)).2 : Nat) : Int), 0, cP.2.2.1, cP.2.2.2.1, uh)) rfl ?_
    refine j_ifb_ne F (tgt := 67) dX7_readsItem_62 (by decide)  (fun c62 => ?_) (fun c62 => ?_)
    · have hh1 : ¬ (rdH T (t + 1)).1 = -1 := c62
      have h88 := h8 hh1
      refine j_aload_n F dX7_readsItem_67 rfl 0 rfl ?_
      refine j_aload_n F dX7_readsItem_68 rfl 0 rfl ?_
      refine j_getf F (ref := "CairnGameModel") (C := RX7) (T := TX7) (N := 27) (ci := 7) (index := 187) (v := .int (iI uh)) (fun w h => (List.mem_cons_of_mem _ (List.mem_append_right _ h))) 0 rfl rfl 26 (by decide) (List.mem_cons_of_mem _ (List.mem_append_left _ (List.mem_append_left _ (List.mem_of_getElem? (l := wsX7_readsItem_r1) (i := 1) rfl)))) rfl rfl dX7_readsItem_69 ?_
      refine j_putf F (ref := "CairnGameModel") (C := RX7) (T := TX7) (N := 27) (ci := 7) (index := 199) (ty := .int) (ws' := moC g ad th (cC.1, cC.2.1, cC.2.2.1, cC.2.2.2.1, ((T.length : Nat) : Int)) cT cL ((((rdH T (t + 1)).2 : Nat) : Int), 0, uh, cP.2.2.2.1, uh)) (fun w h => (List.mem_cons_of_mem _ (List.mem_append_right _ h))) tyX7 tyX7_ok nmX7 0 rfl rfl 24 (by decide) (List.mem_cons_of_mem _ (List.mem_append_left _ (List.mem_append_left _ (List.mem_of_getElem? (l := wsX7_readsItem_r1) (i := 2) rfl)))) rfl rfl rfl rfl rfl (lt_ble rfl) rfl dX7_readsItem_72 ?_
      refine j_aload_n F dX7_readsItem_75 rfl 0 rfl ?_
      refine j_getf F (ref := "CairnGameModel") (C := RX7) (T := TX7) (N := 27) (ci := 7) (index := 196) (v := .int (iI 0)) (fun w h => (List.mem_cons_of_mem _ (List.mem_append_right _ h))) 0 rfl rfl 23 (by decide) (List.mem_cons_of_mem _ (List.mem_append_left _ (List.mem_append_left _ (List.mem_of_getElem? (l := wsX7_readsItem_r1) (i := 0) rfl)))) rfl rfl dX7_readsItem_76 ?_
      refine j_if_ne F (tgt := 87) dX7_readsItem_79 (by decide) (by unfold rg; omega) (fun h9 => by exfalso; omega) (fun c79 => ?_)
      refine j_bipush F dX7_readsItem_82 (by decide) ?_
      refine j_goto F (tgt := 102) dX7_readsItem_84 (by decide) ?_
      refine j_istore_n F (lv' := [(1, .int (iI 45)), (0, .ref (ad 0))]) dX7_readsItem_102 rfl (by decide) rfl ?_
      refine j_aload_n F dX7_readsItem_103 rfl 1 rfl ?_
      refine j_iload_n F dX7_readsItem_104 rfl 0 rfl ?_
      refine j_iload_n F dX7_readsItem_105 rfl 0 rfl ?_
      refine j_callV_I F (As := [.int (iI 45), .int (iI 45)]) (wr := []) (st := []) (c_X7_accepts hfl D g z ad th (cC.1, cC.2.1, cC.2.2.1, cC.2.2.2.1, ((T.length : Nat) : Int)) cT cL ((((rdH T (t + 1)).2 : Nat) : Int), 0, uh, cP.2.2.2.1, uh) T ((rdH T (t + 1)).2) 45 45 hT htr (by omega) (by omega)) (idx := 183) (C := RX7) gX7_readsItem_X7_accepts rfl rfl [0, 1, 2, 3, 4, 5, 6, 7, 8, 9, 10, 11, 12, 13, 14] [] rfl rfl (by decide) (by decide) (by decide) (ci := 7) (q0 := 0) rfl rfl (by decide) (by decide) (le_ble rfl) ⟨by decide, by decide⟩ dX7_readsItem_106 ?_
      rintro r9 u9 h9
      subst h9
      refine J.wsEq (ws2 := moC g ad th (cC.1, cC.2.1, cC.2.2.1, cC.2.2.2.1, ((T.length : Nat) : Int)) cT cL (((acN T ((rdH T (t + 1)).2) 45 45 : Nat) : Int), 0, uh, cP.2.2.2.1, uh)) rfl ?_
      refine j_ifb_eq F (tgt := 161) dX7_readsItem_109 (by decide)  (fun c109 => ?_) (fun c109 => ?_)
      · have e0 : (rdI T t 0 0) = (0, (rdH T (t + 1)).2, kindT ((sgT T t : Nat) : Int), (rdH T (t + 1)).1, 0) := by unfold rdI; rw [if_neg hk1, if_neg hh1, if_pos (by rw [hkt, hlk]; omega)]
        refine j_iconst F dX7_readsItem_161 ?_
        refine J.wsEq (ws2 := moC g ad th (cC.1, cC.2.1, cC.2.2.1, cC.2.2.2.1, ((T.length : Nat) : Int)) cT cL ((((rdI T t 0 0).2.1 : Nat) : Int), 0, uh, cP.2.2.2.1, uh)) (by first | (rw [acN_f c109, e0]) | (dsimp only; rw [acN_f c109, e0])) ?_
        exact ret _ (0, uh, cP.2.2.2.1, uh) 0 0 _ _ dX7_readsItem_162 (by decide) (by decide) (⟨fun w => by rw [e0] at w; exact absurd (show (0 : Int) = 1 from w) (by decide), by rw [e0]⟩)
      · have hs1 : sgT T (rdH T (t + 1)).2 = lnkT (kindT ((sgT T t : Nat) : Int)) := by rw [hkt, hlk]; omega
        refine J.wsEq (ws2 := moC g ad th (cC.1, cC.2.1, cC.2.2.1, cC.2.2.2.1, ((T.length : Nat) : Int)) cT cL ((((rdH T (t + 1)).2 + 1 : Nat) : Int), 0, uh, cP.2.2.2.1, uh)) (by first | (rw [acN_t c109]) | (dsimp only; rw [acN_t c109])) ?_
        refine j_aload_n F dX7_readsItem_112 rfl 1 rfl ?_
        refine j_getf F (ref := "CairnGameModel") (C := RX7) (T := TX7) (N := 27) (ci := 7) (index := 196) (v := .int (iI 0)) (fun w h => (List.mem_cons_of_mem _ (List.mem_append_right _ h))) 0 rfl rfl 23 (by decide) (List.mem_cons_of_mem _ (List.mem_append_left _ (List.mem_append_left _ (List.mem_of_getElem? (l := wsX7_readsItem_r1) (i := 0) rfl)))) rfl rfl dX7_readsItem_113 ?_
        refine j_if_ne F (tgt := 130) dX7_readsItem_116 (by decide) (by unfold rg; omega) (fun h9 => by exfalso; omega) (fun c116 => ?_)
        refine j_aload_n F dX7_readsItem_119 rfl 1 rfl ?_
        refine j_iconst F dX7_readsItem_120 ?_
        refine j_callV_I F (As := [.int (iI 5)]) (wr := []) (st := []) (c_X7_readsAmount hfl D g z ad th (cC.1, cC.2.1, cC.2.2.1, cC.2.2.2.1, ((T.length : Nat) : Int)) cT cL ((((rdH T (t + 1)).2 + 1 : Nat) : Int), 0, uh, cP.2.2.2.1, uh) T ((rdH T (t + 1)).2 + 1) 0 hT htr (by omega) (by decide)) (idx := 202) (C := RX7) gX7_readsItem_X7_readsAmount rfl rfl [0, 1, 2, 3, 4, 5, 6, 7, 8, 9, 10, 11, 12, 13, 14] [] rfl rfl (by decide) (by decide) (by decide) (ci := 7) (q0 := 0) rfl rfl (by decide) (by decide) (le_ble rfl) ⟨by decide, by decide⟩ dX7_readsItem_121 ?_
        rintro r9 ua ⟨h7, h9⟩
        subst h9
        refine J.wsEq (ws2 := moC g ad th (cC.1, cC.2.1, cC.2.2.1, cC.2.2.2.1, ((T.length : Nat) : Int)) cT cL ((((rdA T ((rdH T (t + 1)).2 + 1) 0).2 : Nat) : Int), 0, uh, ua, uh)) rfl ?_
        refine j_ifb_eq F (tgt := 161) dX7_readsItem_124 (by decide)  (fun c124 => ?_) (fun c124 => ?_)
        · have hx1 : (rdA T ((rdH T (t + 1)).2 + 1) 0).1 = -1 := Decidable.not_not.mp c124
          have e0 : (rdI T t 0 0) = (0, (rdA T ((rdH T (t + 1)).2 + 1) 0).2, kindT ((sgT T t : Nat) : Int), (rdH T (t + 1)).1, (rdA T ((rdH T (t + 1)).2 + 1) 0).1) := by unfold rdI; rw [if_neg hk1, if_neg hh1, if_neg (fun z9 => z9 hs1), hkt, if_pos hx1]
          refine j_iconst F dX7_readsItem_161 ?_
          refine J.wsEq (ws2 := moC g ad th (cC.1, cC.2.1, cC.2.2.1, cC.2.2.2.1, ((T.length : Nat) : Int)) cT cL ((((rdI T t 0 0).2.1 : Nat) : Int), 0, uh, ua, uh)) (by first | (rw [e0]) | (dsimp only; rw [e0])) ?_
          exact ret _ (0, uh, ua, uh) 0 0 _ _ dX7_readsItem_162 (by decide) (by decide) (⟨fun w => by rw [e0] at w; exact absurd (show (0 : Int) = 1 from w) (by decide), by rw [e0]⟩)
        · have hx1 : ¬ (rdA T ((rdH T (t + 1)).2 + 1) 0).1 = -1 := c124
          have h77 := h7 hx1
          have e0 : (rdI T t 0 0) = (1, (rdA T ((rdH T (t + 1)).2 + 1) 0).2, kindT ((sgT T t : Nat) : Int), (rdH T (t + 1)).1, (rdA T ((rdH T (t + 1)).2 + 1) 0).1) := by unfold rdI; rw [if_neg hk1, if_neg hh1, if_neg (fun z9 => z9 hs1), hkt, if_neg hx1]
          refine j_goto F (tgt := 157) dX7_readsItem_127 (by decide) ?_
          refine j_iconst F dX7_readsItem_157 ?_
          refine j_goto F (tgt := 162) dX7_readsItem_158 (by decide) ?_
          refine J.wsEq (ws2 := moC g ad th (cC.1, cC.2.1, cC.2.2.1, cC.2.2.2.1, ((T.length : Nat) : Int)) cT cL ((((rdI T t 0 0).2.1 : Nat) : Int), 0, uh, ua, uh)) (by first | (rw [e0]) | (dsimp only; rw [e0])) ?_
          exact ret _ (0, uh, ua, uh) 0 0 _ _ dX7_readsItem_162 (by decide) (by decide) (⟨fun _ => by rw [e0]; exact ⟨hkt.symm, h88, h77⟩, by rw [e0]⟩)
    · have hx0 : (rdH T (t + 1)).1 = -1 := by omega
      have e0 : (rdI T t 0 0) = (0, (rdH T (t + 1)).2, kindT ((sgT T t : Nat) : Int), -1, 0) := by unfold rdI; rw [if_neg hk1, if_pos hx0]
      refine j_iconst F dX7_readsItem_65 ?_
      refine J.wsEq (ws2 := moC g ad th (cC.1, cC.2.1, cC.2.2.1, cC.2.2.2.1, ((T.length : Nat) : Int)) cT cL ((((rdI T t 0 0).2.1 : Nat) : Int), 0, cP.2.2.1, cP.2.2.2.1, uh)) (by first | (rw [e0]) | (dsimp only; rw [e0])) ?_
      exact ret _ (0, cP.2.2.1, cP.2.2.2.1, uh) 0 0 _ _ dX7_readsItem_66 (by decide) (by decide) (⟨fun w => by rw [e0] at w; exact absurd (show (0 : Int) = 1 from w) (by decide), by rw [e0]⟩)

theorem rdH_in {T : List Nat} {t : Nat} (h : ¬ (rdH T t).1 = -1) : (rdH T t).2 ≤ T.length := by
  have key : ∀ i, ¬ sgT T i = 0 → i < T.length := fun i hi => by
    rcases Nat.lt_or_ge i T.length with w | w
    · exact w
    · exact absurd (sgT_out w) hi
  unfold rdH at h ⊢
  by_cases q : sgT T t < 48 ∨ 57 < sgT T t
  · rw [if_pos q] at h
    exact absurd rfl h
  · rw [if_neg q]
    have k1 := key t (by omega)
    by_cases q2 : sgT T t = 49
    · rw [if_pos q2]
      by_cases q3 : sgT T (t + 1) = 48
      · rw [if_pos q3]
        have := key (t + 1) (by omega)
        show t + 2 ≤ T.length; omega
      · rw [if_neg q3]
        by_cases q4 : sgT T (t + 1) = 49
        · rw [if_pos q4]
          have := key (t + 1) (by omega)
          show t + 2 ≤ T.length; omega
        · rw [if_neg q4]
          show t + 1 ≤ T.length; omega
    · rw [if_neg q2]
      show t + 1 ≤ T.length; omega
theorem rdA_in {T : List Nat} {t : Nat} {k : Int} (h : ¬ (rdA T t k).1 = -1) : (rdA T t k).2 ≤ T.length := by
  unfold rdA at h ⊢
  by_cases q : k = 2
  · rw [if_pos q] at h ⊢
    exact rdH_in h
  · rw [if_neg q] at h ⊢
    by_cases q2 : sgT T t < 49 ∨ amL k < sgT T t
    · rw [if_pos q2] at h
      exact absurd rfl h
    · rw [if_neg q2]
      rcases Nat.lt_or_ge t T.length with w | w
      · show t + 1 ≤ T.length; omega
      · have := sgT_out w; omega
/-- an item that is read whole ends in the text -/
theorem rdI_in {T : List Nat} {t : Nat} (h : (rdI T t 0 0).1 = 1) : (rdI T t 0 0).2.1 ≤ T.length := by
  unfold rdI at h ⊢
  by_cases q1 : kindT ((sgT T t : Nat) : Int) = -1
  · rw [if_pos q1] at h
    exact absurd (show (0 : Int) = 1 from h) (by decide)
  · rw [if_neg q1] at h ⊢
    by_cases q2 : (rdH T (t + 1)).1 = -1
    · rw [if_pos q2] at h
      exact absurd (show (0 : Int) = 1 from h) (by decide)
    · rw [if_neg q2] at h ⊢
      by_cases q3 : sgT T (rdH T (t + 1)).2 = lnkT (kindT ((sgT T t : Nat) : Int))
      · rw [if_neg (fun z => z q3)] at h ⊢
        by_cases q4 : (rdA T ((rdH T (t + 1)).2 + 1) (kindT (sgT T t))).1 = -1
        · have e : (if (rdA T ((rdH T (t + 1)).2 + 1) (kindT (sgT T t))).1 = -1 then (0 : Int) else 1) = 1 := h
          rw [if_pos q4] at e
          exact absurd e (by decide)
        · exact rdA_in q4
      · rw [if_pos q3] at h
        exact absurd (show (0 : Int) = 1 from h) (by decide)

set_option maxHeartbeats 1000000 in
set_option maxRecDepth 100000 in
theorem c_X7_findError {l : Launch} (hfl : l.flags = flags0) (D : va_G) (g : GT) (z : ZT) (ad : Nat → Nat) (th : Int) (cC : CT) (cT : TT) (cL : LT) (cP : PT) (T : List Nat) (hT : txOK T) (htr : rep cC.2.2.2.1 T) : CI l yX7_findError wsX7_findError 6 127 0 D g z [.ref (ad 0)] (moC g ad th (cC.1, cC.2.1, cC.2.2.1, cC.2.2.2.1, ((T.length : Nat) : Int)) cT cL cP) (fun (r9 : Int32) (u9 : PT) => r9 = iI (erT T)) (fun (u9 : PT) => moC g ad th (cC.1, cC.2.1, cC.2.2.1, cC.2.2.2.1, ((T.length : Nat) : Int)) cT cL u9) 0 0 := by
  refine CI_of hfl (own := RX7) ⟨5, 0, 0, 107⟩ 6 127 0 (by decide +kernel) rfl rfl ⟨by decide, by decide, by decide +kernel⟩ ⟨by decide, by decide⟩ (le_ble rfl) (fun _ _ _ => rfl) ?_
  intro p e s m below meth c A Q F ret
  change J p l e _ s m _ below meth c A D _ Q 0 0 (moC g ad th (cC.1, cC.2.1, cC.2.2.1, cC.2.2.2.1, ((T.length : Nat) : Int)) cT cL cP) [(0, .ref (ad 0))] [] 0
  have hTl := hT.1
  refine j_aload_n F dX7_findError_0 rfl 0 rfl ?_
  refine j_iconst F dX7_findError_1 ?_
  refine j_putf F (ref := "CairnGameModel") (C := RX7) (T := TX7) (N := 27) (ci := 7) (index := 180) (ty := .int) (ws' := moC g ad th (cC.1, cC.2.1, cC.2.2.1, cC.2.2.2.1, ((T.length : Nat) : Int)) cT cL (0, cP.2.1, cP.2.2.1, cP.2.2.2.1, cP.2.2.2.2)) (fun w h => (List.mem_cons_of_mem _ (List.mem_append_right _ h))) tyX7 tyX7_ok nmX7 0 rfl rfl 22 (by decide) (List.mem_cons_of_mem _ (List.mem_append_left _ (List.mem_append_left _ (List.mem_of_getElem? (l := wsX7_findError_r1) (i := 0) rfl)))) rfl rfl rfl rfl rfl (lt_ble rfl) rfl dX7_findError_2 ?_
  refine J.loc [0] rfl ?_
  refine J_loop (σ := Nat × Nat × (Int × Int × Int × Int)) (fun x9 : Nat × Nat × (Int × Int × Int × Int) => match x9 with | (j, t, pv) => (4 * j ≤ t ∧ t ≤ 60) ∧ erF T (60 - j) t = erT T) (fun x9 : Nat × Nat × (Int × Int × Int × Int) => match x9 with | (j, t, pv) => 61 - t) (fun x9 : Nat × Nat × (Int × Int × Int × Int) => match x9 with | (j, t, pv) => moC g ad th (cC.1, cC.2.1, cC.2.2.1, cC.2.2.2.1, ((T.length : Nat) : Int)) cT cL (((t : Nat) : Int), pv.1, pv.2.1, pv.2.2.1, pv.2.2.2)) (fun x9 : Nat × Nat × (Int × Int × Int × Int) => match x9 with | (j, t, pv) => [(0, .ref (ad 0))]) (0, 0, (cP.2.1, cP.2.2.1, cP.2.2.2.1, cP.2.2.2.2)) (by show (4 * 0 ≤ 0 ∧ 0 ≤ 60) ∧ erF T (60 - 0) 0 = erT T; exact ⟨by omega, rfl⟩) ?_
  rintro ⟨j, t, pv⟩ hI ih5
  have hI : (4 * j ≤ t ∧ t ≤ 60) ∧ erF T (60 - j) t = erT T := hI
  obtain ⟨⟨i1, i2⟩, i3⟩ := hI
  have hb9 := rdI_b T t 0 0
  have h019 := rdI_01 T t 0 0
  have hgo := er_go i3 (by omega)
  refine j_aload_n F dX7_findError_5 rfl 0 rfl ?_
  refine j_callV_I F (As := []) (wr := []) (st := []) (c_X7_readsItem hfl D g z ad th (cC.1, cC.2.1, cC.2.2.1, cC.2.2.2.1, ((T.length : Nat) : Int)) cT cL (((t : Nat) : Int), pv.1, pv.2.1, pv.2.2.1, pv.2.2.2) T t hT htr (by omega)) (idx := 208) (C := RX7) gX7_findError_X7_readsItem rfl rfl [0, 1, 2, 3, 4, 5, 6, 7, 8, 9, 10, 11, 12, 13, 14] [] rfl rfl (by decide) (by decide) (by decide) (ci := 7) (q0 := 0) rfl rfl (by decide) (by decide) (le_ble rfl) ⟨by decide, by decide⟩ dX7_findError_6 ?_
  rintro r9 u9 ⟨h8, h9⟩
  subst h9
  refine J.wsEq (ws2 := moC g ad th (cC.1, cC.2.1, cC.2.2.1, cC.2.2.2.1, ((T.length : Nat) : Int)) cT cL ((((rdI T t 0 0).2.1 : Nat) : Int), u9.1, u9.2.1, u9.2.2.1, u9.2.2.2)) rfl ?_
  refine j_if_ne F (tgt := 17) dX7_findError_9 (by decide) (by unfold rg; omega) (fun c9 => ?_) (fun c9 => ?_)
  · refine j_aload_n F dX7_findError_17 rfl 0 rfl ?_
    refine j_getf F (ref := "CairnGameModel") (C := RX7) (T := TX7) (N := 27) (ci := 7) (index := 180) (v := .int (iI (((rdI T t 0 0).2.1 : Nat) : Int))) (fun w h => (List.mem_cons_of_mem _ (List.mem_append_right _ h))) 0 rfl rfl 22 (by decide) (List.mem_cons_of_mem _ (List.mem_append_left _ (List.mem_append_left _ (List.mem_of_getElem? (l := wsX7_findError_r1) (i := 0) rfl)))) rfl rfl dX7_findError_18 ?_
    refine j_aload_n F dX7_findError_21 rfl 0 rfl ?_
    refine j_getf F (ref := "CairnGameModel") (C := RX7) (T := TX7) (N := 27) (ci := 7) (index := 177) (v := .int (iI ((T.length : Nat) : Int))) (fun w h => (List.mem_cons_of_mem _ (List.mem_append_right _ h))) 0 rfl rfl 5 (by decide) (List.mem_cons_of_mem _ (List.mem_append_left _ (List.mem_append_left _ (List.mem_of_getElem? (l := wsX7_findError_r1) (i := 1) rfl)))) rfl rfl dX7_findError_22 ?_
    refine j_icmp_ne F (tgt := 30) dX7_findError_25 (by decide) ⟨(by unfold rg; omega), (by unfold rg; omega)⟩ (fun c25 => ?_) (fun c25 => ?_)
    · have hin9 : (rdI T t 0 0).2.1 < T.length := by have := rdI_in (T := T) (t := t) (by omega); omega
      have hsg9 := sgT_lt hT (rdI T t 0 0).2.1
      refine j_aload_n F dX7_findError_30 rfl 0 rfl ?_
      refine j_getf F (ref := "CairnGameModel") (C := RX7) (T := TX7) (N := 27) (ci := 7) (index := 16) (v := .ref (ad 4)) (fun w h => (List.mem_cons_of_mem _ (List.mem_append_right _ h))) 0 rfl rfl 4 (by decide) (List.mem_cons_of_mem _ (List.mem_append_left _ (List.mem_append_left _ (List.mem_of_getElem? (l := wsX7_findError_r1) (i := 2) rfl)))) rfl rfl dX7_findError_31 ?_
      refine j_aload_n F dX7_findError_34 rfl 0 rfl ?_
      refine j_getf F (ref := "CairnGameModel") (C := RX7) (T := TX7) (N := 27) (ci := 7) (index := 180) (v := .int (iI (((rdI T t 0 0).2.1 : Nat) : Int))) (fun w h => (List.mem_cons_of_mem _ (List.mem_append_right _ h))) 0 rfl rfl 22 (by decide) (List.mem_cons_of_mem _ (List.mem_append_left _ (List.mem_append_left _ (List.mem_of_getElem? (l := wsX7_findError_r1) (i := 0) rfl)))) rfl rfl dX7_findError_35 ?_
      refine j_iald F 3 (n := 60) (f := cC.2.2.2.1) rfl ((rdI T t 0 0).2.1) (by omega) (by omega) (by decide) dX7_findError_38 ?_
      refine J.top (congrArg iI (show cC.2.2.2.1 ((rdI T t 0 0).2.1) = (((sgT T (rdI T t 0 0).2.1) : Nat) : Int) from sgT_rep htr hin9)) ?_
      refine j_bipush F dX7_findError_39 (by decide) ?_
      refine j_icmp_eq F (tgt := 49) dX7_findError_41 (by decide) ⟨(by unfold rg; omega), (by unfold rg; omega)⟩ (fun c41 => ?_) (fun c41 => ?_)
      · refine j_aload_n F dX7_findError_49 rfl 0 rfl ?_
        refine j_dup F dX7_findError_50 rfl ?_
        refine j_getf F (ref := "CairnGameModel") (C := RX7) (T := TX7) (N := 27) (ci := 7) (index := 180) (v := .int (iI (((rdI T t 0 0).2.1 : Nat) : Int))) (fun w h => (List.mem_cons_of_mem _ (List.mem_append_right _ h))) 0 rfl rfl 22 (by decide) (List.mem_cons_of_mem _ (List.mem_append_left _ (List.mem_append_left _ (List.mem_of_getElem? (l := wsX7_findError_r1) (i := 0) rfl)))) rfl rfl dX7_findError_51 ?_
        refine j_iconst F dX7_findError_54 ?_
        refine j_iadd F dX7_findError_55 ?_
        refine j_putf F (ref := "CairnGameModel") (C := RX7) (T := TX7) (N := 27) (ci := 7) (index := 180) (ty := .int) (ws' := moC g ad th (cC.1, cC.2.1, cC.2.2.1, cC.2.2.2.1, ((T.length : Nat) : Int)) cT cL (((((rdI T t 0 0).2.1 : Nat) : Int) + 1), u9.1, u9.2.1, u9.2.2.1, u9.2.2.2)) (fun w h => (List.mem_cons_of_mem _ (List.mem_append_right _ h))) tyX7 tyX7_ok nmX7 0 rfl rfl 22 (by decide) (List.mem_cons_of_mem _ (List.mem_append_left _ (List.mem_append_left _ (List.mem_of_getElem? (l := wsX7_findError_r1) (i := 0) rfl)))) rfl rfl rfl rfl rfl (lt_ble rfl) rfl dX7_findError_56 ?_
        refine j_goto F (tgt := 5) dX7_findError_59 (by decide) ?_
        refine J.loc [0] rfl ?_
        exact ih5 ((j + 1), ((rdI T t 0 0).2.1 + 1), u9) (by show (4 * (j + 1) ≤ ((rdI T t 0 0).2.1 + 1) ∧ ((rdI T t 0 0).2.1 + 1) ≤ 60) ∧ erF T (60 - (j + 1)) ((rdI T t 0 0).2.1 + 1) = erT T; exact ⟨by omega, by rw [if_neg (by omega), if_neg (by omega), if_pos (by omega)] at hgo; exact hgo.symm⟩) (by show 61 - ((rdI T t 0 0).2.1 + 1) < 61 - t; omega)
      · refine j_aload_n F dX7_findError_44 rfl 0 rfl ?_
        refine j_getf F (ref := "CairnGameModel") (C := RX7) (T := TX7) (N := 27) (ci := 7) (index := 180) (v := .int (iI (((rdI T t 0 0).2.1 : Nat) : Int))) (fun w h => (List.mem_cons_of_mem _ (List.mem_append_right _ h))) 0 rfl rfl 22 (by decide) (List.mem_cons_of_mem _ (List.mem_append_left _ (List.mem_append_left _ (List.mem_of_getElem? (l := wsX7_findError_r1) (i := 0) rfl)))) rfl rfl dX7_findError_45 ?_
        exact ret _ ((((rdI T t 0 0).2.1 : Nat) : Int), u9.1, u9.2.1, u9.2.2.1, u9.2.2.2) 0 0 _ _ dX7_findError_48 (by decide) (by decide) (by rw [hgo, if_neg (by omega), if_neg (by omega), if_neg (by omega)])
    · refine j_iconst F dX7_findError_28 ?_
      exact ret _ ((((rdI T t 0 0).2.1 : Nat) : Int), u9.1, u9.2.1, u9.2.2.1, u9.2.2.2) 0 0 _ _ dX7_findError_29 (by decide) (by decide) (by rw [hgo, if_neg (by omega), if_pos (by omega)])
  · refine j_aload_n F dX7_findError_12 rfl 0 rfl ?_
    refine j_getf F (ref := "CairnGameModel") (C := RX7) (T := TX7) (N := 27) (ci := 7) (index := 180) (v := .int (iI (((rdI T t 0 0).2.1 : Nat) : Int))) (fun w h => (List.mem_cons_of_mem _ (List.mem_append_right _ h))) 0 rfl rfl 22 (by decide) (List.mem_cons_of_mem _ (List.mem_append_left _ (List.mem_append_left _ (List.mem_of_getElem? (l := wsX7_findError_r1) (i := 0) rfl)))) rfl rfl dX7_findError_13 ?_
    exact ret _ ((((rdI T t 0 0).2.1 : Nat) : Int), u9.1, u9.2.1, u9.2.2.1, u9.2.2.2) 0 0 _ _ dX7_findError_16 (by decide) (by decide) (by rw [hgo, if_pos (by omega)])

set_option maxHeartbeats 1000000 in
set_option maxRecDepth 100000 in
theorem c_X7_firstError {l : Launch} (hfl : l.flags = flags0) (D : va_G) (g : GT) (z : ZT) (ad : Nat → Nat) (th : Int) (cC : CT) (cT : TT) (cL : LT) (cP : PT) (T : List Nat) (hT : txOK T) (htr : rep cC.2.2.2.1 T) : CI l yX7_firstError wsX7_firstError 7 147 0 D g z [.ref (ad 0)] (moC g ad th (cC.1, cC.2.1, cC.2.2.1, cC.2.2.2.1, ((T.length : Nat) : Int)) cT cL cP) (fun (r9 : Int32) (u9 : PT) => r9 = iI (erT T)) (fun (u9 : PT) => moC g ad 0 (cC.1, cC.2.1, cC.2.2.1, cC.2.2.2.1, ((T.length : Nat) : Int)) cT cL u9) 0 0 := by
  refine CI_of hfl (own := RX7) ⟨6, 0, 0, 127⟩ 7 147 0 (by decide +kernel) rfl rfl ⟨by decide, by decide, by decide +kernel⟩ ⟨by decide, by decide⟩ (le_ble rfl) (fun _ _ _ => rfl) ?_
  intro p e s m below meth c A Q F ret
  change J p l e _ s m _ below meth c A D _ Q 0 0 (moC g ad th (cC.1, cC.2.1, cC.2.2.1, cC.2.2.2.1, ((T.length : Nat) : Int)) cT cL cP) [(0, .ref (ad 0))] [] 0
  refine j_aload_n F dX7_firstError_0 rfl 0 rfl ?_
  refine j_iconst F dX7_firstError_1 ?_
  refine j_putf F (ref := "CairnGameModel") (C := RX7) (T := TX7) (N := 27) (ci := 7) (index := 60) (ty := .int) (ws' := moC g ad 0 (cC.1, cC.2.1, cC.2.2.1, cC.2.2.2.1, ((T.length : Nat) : Int)) cT cL cP) (fun w h => (List.mem_cons_of_mem _ (List.mem_append_right _ h))) tyX7 tyX7_ok nmX7 0 rfl rfl 0 (by decide) (List.mem_cons_of_mem _ (List.mem_append_left _ (List.mem_append_left _ (List.mem_of_getElem? (l := wsX7_firstError_r1) (i := 0) rfl)))) rfl rfl rfl rfl rfl (lt_ble rfl) rfl dX7_firstError_2 ?_
  refine j_aload_n F dX7_firstError_5 rfl 0 rfl ?_
  refine j_callV_I F (As := []) (wr := []) (st := []) (c_X7_findError hfl D g z ad 0 (cC.1, cC.2.1, cC.2.2.1, cC.2.2.2.1, ((T.length : Nat) : Int)) cT cL cP T hT htr) (idx := 211) (C := RX7) gX7_firstError_X7_findError rfl rfl [0, 1, 2, 3, 4, 5, 6, 7, 8, 9, 10, 11, 12, 13, 14] [] rfl rfl (by decide) (by decide) (by decide) (ci := 7) (q0 := 0) rfl rfl (by decide) (by decide) (le_ble rfl) ⟨by decide, by decide⟩ dX7_firstError_6 ?_
  rintro r9 u9 h9
  subst h9
  refine J.wsEq (ws2 := moC g ad 0 (cC.1, cC.2.1, cC.2.2.1, cC.2.2.2.1, ((T.length : Nat) : Int)) cT cL u9) rfl ?_
  exact ret _ u9 0 0 _ _ dX7_firstError_9 (by decide) (by decide) rfl

end X7H