/-! ===== the model: what it knows ===== -/
section X7D
theorem mv_getD_mem {ms : List Mv} {j : Nat} (h : j < ms.length) : ms.getD j m0 ∈ ms := by
  rw [List.getD_eq_getElem?_getD, List.getElem?_eq_getElem h]
  exact List.getElem_mem h
theorem mv_ok {G S M : Nat} {L : List Nat} {j : Nat} (h : j < (mvL G S M L).length) : okM G S M L ((mvL G S M L).getD j m0) := mem_mvL.mp (mv_getD_mem h)
theorem okM_b {G S M : Nat} {L : List Nat} (hL : okH L) {m : Mv} (h : okM G S M L m) : m.1 < 3 ∧ m.2.1 < 12 ∧ m.2.2 ≤ 12 := by
  have hl := okH_len hL
  obtain ⟨hq, h⟩ := h
  have hx := okH_at hL hq
  rcases h with h | h | h <;> omega
/-- the position behind a move -/
def bhM (G S M : Nat) (L : List Nat) (j : Nat) : List Nat := apL L ((mvL G S M L).getD j m0).1 ((mvL G S M L).getD j m0).2.1 ((mvL G S M L).getD j m0).2.2
theorem bhM_ok {G S M : Nat} {L : List Nat} (hL : okH L) {j : Nat} (h : j < (mvL G S M L).length) : okH (bhM G S M L j) := (ap_ok hL (mv_ok h)).1

set_option maxHeartbeats 1000000 in
set_option maxRecDepth 100000 in
theorem c_X7_positionBehind {l : Launch} (hfl : l.flags = flags0) (D : va_G) (g : GT) (z : ZT) (ad : Nat → Nat) (th : Int) (cC : CT) (cT : TT) (cP : PT) (H : List Nat) (G S M : Nat) (hp kn pl am b : NF) (nb : Int) (j : Nat) (hH : okH H) (hP : posR cT) (hr : rep hp H) (hmr : mrep3 (mvL G S M H) kn pl am) (hj : j < (mvL G S M H).length) : CI l yX7_positionBehind wsX7_positionBehind 3 68 1 D g z [.ref (ad 0), .int (iI (j : Int))] (moC g ad th cC cT (hp, ((H.length : Nat) : Int), kn, pl, am, (((mvL G S M H).length : Nat) : Int), b, nb) cP) (fun (r9 : Int32) (u9 : NF × Int × Nat) => r9 = iI ((u9.2.2 : Nat) : Int) ∧ u9.2.2 < 272 ∧ posT.getD u9.2.2 [] = sortL (bhM G S M H j) ∧ bhR u9.1 (sortL (bhM G S M H j)) ∧ 0 ≤ u9.2.1 ∧ u9.2.1 ≤ 12) (fun (u9 : NF × Int × Nat) => moC g ad th cC cT (hp, ((H.length : Nat) : Int), kn, pl, am, (((mvL G S M H).length : Nat) : Int), u9.1, u9.2.1) cP) 0 0 := by
  refine CI_of hfl (own := RX7) ⟨2, 0, 0, 47⟩ 3 68 1 (by decide +kernel) rfl rfl ⟨by decide, by decide, by decide +kernel⟩ ⟨by decide, by decide⟩ (le_ble rfl) (fun _ _ _ => rfl) ?_
  intro p e s m below meth c A Q F ret
  change J p l e _ s m _ below meth c A D _ Q 0 0 (moC g ad th cC cT (hp, ((H.length : Nat) : Int), kn, pl, am, (((mvL G S M H).length : Nat) : Int), b, nb) cP) [(0, .ref (ad 0)), (1, .int (iI (j : Int)))] [] 0
  obtain ⟨e1, e2, e3⟩ := hmr j hj
  have hm := mv_ok hj
  have hmb := okM_b hH hm
  have hl84 := mvL_len (g := G) (sp := S) (mg := M) hH
  have hbl := okH_len (bhM_ok hH hj)
  refine j_aload_n F dX7_positionBehind_0 rfl 0 rfl ?_
  refine j_aload_n F dX7_positionBehind_1 rfl 0 rfl ?_
  refine j_getf F (ref := "CairnGameModel") (C := RX7) (T := TX7) (N := 27) (ci := 7) (index := 40) (v := .ref (ad 16)) (fun w h => (List.mem_cons_of_mem _ (List.mem_append_right _ h))) 0 rfl rfl 16 (by decide) (List.mem_cons_of_mem _ (List.mem_append_left _ (List.mem_of_getElem? (i := 0) rfl))) rfl rfl dX7_positionBehind_2 ?_
  refine j_iload_n F dX7_positionBehind_5 rfl 1 rfl ?_
  refine j_iald F 11 (n := 100) (f := kn) rfl j (rfl) (by omega) (by decide) dX7_positionBehind_6 ?_
  refine J.top (congrArg iI (show kn j = (((((mvL G S M H).getD j m0).1) : Nat) : Int) from e1)) ?_
  refine j_aload_n F dX7_positionBehind_7 rfl 0 rfl ?_
  refine j_getf F (ref := "CairnGameModel") (C := RX7) (T := TX7) (N := 27) (ci := 7) (index := 43) (v := .ref (ad 17)) (fun w h => (List.mem_cons_of_mem _ (List.mem_append_right _ h))) 0 rfl rfl 17 (by decide) (List.mem_cons_of_mem _ (List.mem_append_left _ (List.mem_of_getElem? (i := 1) rfl))) rfl rfl dX7_positionBehind_8 ?_
  refine j_iload_n F dX7_positionBehind_11 rfl 1 rfl ?_
  refine j_iald F 12 (n := 100) (f := pl) rfl j (rfl) (by omega) (by decide) dX7_positionBehind_12 ?_
  refine J.top (congrArg iI (show pl j = (((((mvL G S M H).getD j m0).2.1) : Nat) : Int) from e2)) ?_
  refine j_aload_n F dX7_positionBehind_13 rfl 0 rfl ?_
  refine j_getf F (ref := "CairnGameModel") (C := RX7) (T := TX7) (N := 27) (ci := 7) (index := 46) (v := .ref (ad 18)) (fun w h => (List.mem_cons_of_mem _ (List.mem_append_right _ h))) 0 rfl rfl 18 (by decide) (List.mem_cons_of_mem _ (List.mem_append_left _ (List.mem_of_getElem? (i := 2) rfl))) rfl rfl dX7_positionBehind_14 ?_
  refine j_iload_n F dX7_positionBehind_17 rfl 1 rfl ?_
  refine j_iald F 13 (n := 100) (f := am) rfl j (rfl) (by omega) (by decide) dX7_positionBehind_18 ?_
  refine J.top (congrArg iI (show am j = (((((mvL G S M H).getD j m0).2.2) : Nat) : Int) from e3)) ?_
  refine j_callV_V F (As := [.int (iI (((((mvL G S M H).getD j m0).1) : Nat) : Int)), .int (iI (((((mvL G S M H).getD j m0).2.1) : Nat) : Int)), .int (iI (((((mvL G S M H).getD j m0).2.2) : Nat) : Int))]) (wr := []) (st := []) (c_X7_goes hfl D g z ad th cC cT (hp, ((H.length : Nat) : Int), kn, pl, am, (((mvL G S M H).length : Nat) : Int), b, nb) cP H ((mvL G S M H).getD j m0).1 ((mvL G S M H).getD j m0).2.1 ((mvL G S M H).getD j m0).2.2 hH (goM_of hH hm) hr) (idx := 86) (C := RX7) gX7_positionBehind_X7_goes rfl rfl [0, 1, 2, 3, 4, 5, 6, 7, 8, 9, 10, 11, 12, 13, 14] [] rfl rfl (by decide) (by decide) (by decide) (ci := 7) (q0 := 0) rfl rfl (by decide) (by decide) (le_ble rfl) ⟨by decide, by decide⟩ dX7_positionBehind_19 ?_
  rintro u9 h9
  refine J.wsEq (ws2 := moC g ad th cC cT (hp, ((H.length : Nat) : Int), kn, pl, am, (((mvL G S M H).length : Nat) : Int), u9, (((bhM G S M H j).length : Nat) : Int)) cP) rfl ?_
  refine j_aload_n F dX7_positionBehind_22 rfl 0 rfl ?_
  refine j_callV_I F (As := []) (wr := []) (st := []) (c_X7_position hfl D g z ad th cC cT (hp, ((H.length : Nat) : Int), kn, pl, am, (((mvL G S M H).length : Nat) : Int), u9, (((bhM G S M H j).length : Nat) : Int)) cP (bhM G S M H j) (bhM_ok hH hj) hP h9) (idx := 89) (C := RX7) gX7_positionBehind_X7_position rfl rfl [0, 1, 2, 3, 4, 5, 6, 7, 8, 9, 10, 11, 12, 13, 14] [] rfl rfl (by decide) (by decide) (by decide) (ci := 7) (q0 := 0) rfl rfl (by decide) (by decide) (le_ble rfl) ⟨by decide, by decide⟩ dX7_positionBehind_23 ?_
  rintro r8 u8 ⟨h8, h7, h6, h5⟩
  subst h8
  refine J.wsEq (ws2 := moC g ad th cC cT (hp, ((H.length : Nat) : Int), kn, pl, am, (((mvL G S M H).length : Nat) : Int), u8.1, (((bhM G S M H j).length : Nat) : Int)) cP) rfl ?_
  exact ret _ (u8.1, ((bhM G S M H j).length : Int), u8.2) 0 0 _ _ dX7_positionBehind_26 (by decide) (by decide) (⟨rfl, h7, h6, h5, by dsimp only; omega, by dsimp only; omega⟩)

theorem getD_out0 (L : List Nat) (k : Nat) (h : L.length ≤ k) : L.getD k 0 = 0 := by
  rw [List.getD_eq_getElem?_getD, List.getElem?_eq_none h]
  rfl

set_option maxHeartbeats 1000000 in
set_option maxRecDepth 100000 in
theorem c_X7_looksAt {l : Launch} (hfl : l.flags = flags0) (D : va_G) (g : GT) (z : ZT) (ad : Nat → Nat) (th : Int) (cC : CT) (cT : TT) (cL : LT) (cP : PT) (L1 : List Nat) (G S M Nn : Nat) (c3 : C3) (po : Nat) (hp : po < 272) (hP : posR cT) (hG : 1 ≤ G ∧ G ≤ 5) (hS : S ≤ 1) (hM : M ≤ 1) (hN : Nn ≤ 1) (hst : stM cC.1 L1 G S M Nn c3) : CV l yX7_looksAt wsX7_looksAt 3 67 1 D g z [.ref (ad 0), .int (iI (po : Int))] (moC g ad th cC cT cL cP) (fun (u9 : NF × NF × NF × NF) => rep u9.1 (posT.getD po []) ∧ mrep3 (mvL G S M (posT.getD po [])) u9.2.1 u9.2.2.1 u9.2.2.2) (fun (u9 : NF × NF × NF × NF) => moC g ad th cC cT (u9.1, ((((posT.getD po [])).length : Nat) : Int), u9.2.1, u9.2.2.1, u9.2.2.2, (((mvL G S M (posT.getD po [])).length : Nat) : Int), cL.2.2.2.2.2.2.1, cL.2.2.2.2.2.2.2) cP) 0 0 := by
  refine CV_of hfl (own := RX7) ⟨2, 0, 0, 45⟩ 3 67 1 (by decide +kernel) rfl rfl ⟨by decide, by decide, by decide +kernel⟩ ⟨by decide, by decide⟩ (le_ble rfl) ?_
  intro p e s m below meth c A Q F hin ret
  change J p l e _ s m _ below meth c A D _ Q 0 0 (moC g ad th cC cT cL cP) [(0, .ref (ad 0)), (1, .int (iI (po : Int)))] [] 0
  have hH := posT_H hp
  have hlen := okH_len hH
  refine j_aload_n F dX7_looksAt_0 rfl 0 rfl ?_
  refine j_iconst F dX7_looksAt_1 ?_
  refine j_putf F (ref := "CairnGameModel") (C := RX7) (T := TX7) (N := 27) (ci := 7) (index := 79) (ty := .int) (ws' := moC g ad th cC cT (cL.1, 0, cL.2.2.1, cL.2.2.2.1, cL.2.2.2.2.1, cL.2.2.2.2.2.1, cL.2.2.2.2.2.2.1, cL.2.2.2.2.2.2.2) cP) (fun w h => (List.mem_cons_of_mem _ (List.mem_append_right _ h))) tyX7 tyX7_ok nmX7 0 rfl rfl 15 (by decide) (List.mem_cons_of_mem _ (List.mem_append_left _ (List.mem_of_getElem? (i := 0) rfl))) rfl rfl rfl rfl rfl (lt_ble rfl) rfl dX7_looksAt_2 ?_
  refine J.wsEq (ws2 := moC g ad th cC cT (cL.1, ((min 0 (posT.getD po []).length : Nat) : Int), cL.2.2.1, cL.2.2.2.1, cL.2.2.2.2.1, cL.2.2.2.2.2.1, cL.2.2.2.2.2.2.1, cL.2.2.2.2.2.2.2) cP) (by first | (rw [Nat.zero_min]; rfl) | (dsimp only; rw [Nat.zero_min]; rfl)) ?_
  refine j_iconst F dX7_looksAt_5 ?_
  refine j_istore_n F (lv' := [(2, .int (iI 0)), (0, .ref (ad 0)), (1, .int (iI (po : Int)))]) dX7_looksAt_6 rfl (by decide) rfl ?_
  refine J.loc [0, 1, 2] rfl ?_
  refine J_loop (σ := Nat × NF) (fun x9 : Nat × NF => match x9 with | (k, f) => k ≤ 12 ∧ ∀ j, j < k → f j = (((posT.getD po []).getD j 0 : Nat) : Int)) (fun x9 : Nat × NF => match x9 with | (k, f) => 12 - k) (fun x9 : Nat × NF => match x9 with | (k, f) => moC g ad th cC cT (f, ((min k (posT.getD po []).length : Nat) : Int), cL.2.2.1, cL.2.2.2.1, cL.2.2.2.2.1, cL.2.2.2.2.2.1, cL.2.2.2.2.2.2.1, cL.2.2.2.2.2.2.2) cP) (fun x9 : Nat × NF => match x9 with | (k, f) => [(2, .int (iI (k : Int))), (0, .ref (ad 0)), (1, .int (iI (po : Int)))]) (0, cL.1) (by show 0 ≤ 12 ∧ ∀ j, j < 0 → cL.1 j = (((posT.getD po []).getD j 0 : Nat) : Int); exact ⟨Nat.zero_le _, fun j hj => absurd hj (Nat.not_lt_zero j)⟩) ?_
  rintro ⟨k, f⟩ hI ih7
  have hI : k ≤ 12 ∧ ∀ j, j < k → f j = (((posT.getD po []).getD j 0 : Nat) : Int) := hI
  obtain ⟨i1, i2⟩ := hI
  refine j_iload_n F dX7_looksAt_7 rfl 0 rfl ?_
  refine j_bipush F dX7_looksAt_8 (by decide) ?_
  refine j_icmp_ge F (tgt := 59) dX7_looksAt_10 (by decide) ⟨(by unfold rg; omega), (by unfold rg; omega)⟩ (fun c10 => ?_) (fun c10 => ?_)
  · have ek : k = 12 := by omega
    have hr : rep f (posT.getD po []) := fun i hi => i2 i (by omega)
    refine J.wsEq (ws2 := moC g ad th cC cT (f, ((((posT.getD po [])).length : Nat) : Int), cL.2.2.1, cL.2.2.2.1, cL.2.2.2.2.1, cL.2.2.2.2.2.1, cL.2.2.2.2.2.2.1, cL.2.2.2.2.2.2.2) cP) (by first | (rw [show min k (posT.getD po []).length = (posT.getD po []).length by omega]) | (dsimp only; rw [show min k (posT.getD po []).length = (posT.getD po []).length by omega])) ?_
    refine j_aload_n F dX7_looksAt_59 rfl 1 rfl ?_
    refine j_callV_V F (As := []) (wr := []) (st := []) (c_X7_lists hfl D g z ad th cC cT (f, ((((posT.getD po [])).length : Nat) : Int), cL.2.2.1, cL.2.2.2.1, cL.2.2.2.2.1, cL.2.2.2.2.2.1, cL.2.2.2.2.2.2.1, cL.2.2.2.2.2.2.2) cP L1 (posT.getD po []) G S M Nn c3 hH hG hS hM hN hst hr) (idx := 93) (C := RX7) gX7_looksAt_X7_lists rfl rfl [0, 1, 2, 3, 4, 5, 6, 7, 8, 9, 10, 11, 12, 13, 14] [] rfl rfl (by decide) (by decide) (by decide) (ci := 7) (q0 := 0) rfl rfl (by decide) (by decide) (le_ble rfl) ⟨by decide, by decide⟩ dX7_looksAt_60 ?_
    rintro u9 h9
    refine J.wsEq (ws2 := moC g ad th cC cT (f, ((((posT.getD po [])).length : Nat) : Int), u9.1, u9.2.1, u9.2.2, (((mvL G S M (posT.getD po [])).length : Nat) : Int), cL.2.2.2.2.2.2.1, cL.2.2.2.2.2.2.2) cP) rfl ?_
    exact ret (f, u9.1, u9.2.1, u9.2.2) 0 0 _ _ dX7_looksAt_63 (by decide) (by decide) (⟨hr, h9⟩)
  · have e1 := hP.1 po hp k (by omega)
    have e2 := okH_at9 hH k
    have e3 := fun w : k < (posT.getD po []).length => (okH_at hH w).1
    have e4 := getD_out0 (posT.getD po []) k
    refine j_aload_n F dX7_looksAt_13 rfl 1 rfl ?_
    refine j_getf F (ref := "CairnGameModel") (C := RX7) (T := TX7) (N := 27) (ci := 7) (index := 37) (v := .ref (ad 14)) (fun w h => (List.mem_cons_of_mem _ (List.mem_append_right _ h))) 0 rfl rfl 14 (by decide) (List.mem_cons_of_mem _ (List.mem_append_left _ (List.mem_of_getElem? (i := 1) rfl))) rfl rfl dX7_looksAt_14 ?_
    refine j_iload_n F dX7_looksAt_17 rfl 0 rfl ?_
    refine j_aload_n F dX7_looksAt_18 rfl 1 rfl ?_
    refine j_getf F (ref := "CairnGameModel") (C := RX7) (T := TX7) (N := 27) (ci := 7) (index := 19) (v := .ref (ad 6)) (fun w h => (List.mem_cons_of_mem _ (List.mem_append_right _ h))) 0 rfl rfl 6 (by decide) (List.mem_cons_of_mem _ (List.mem_append_left _ (List.mem_of_getElem? (i := 2) rfl))) rfl rfl dX7_looksAt_19 ?_
    refine j_bipush F dX7_looksAt_22 (by decide) ?_
    refine j_iload_n F dX7_looksAt_24 rfl 2 rfl ?_
    refine j_imul F dX7_looksAt_25 ?_
    refine j_iload_n F dX7_looksAt_26 rfl 0 rfl ?_
    refine j_iadd F dX7_looksAt_27 ?_
    refine j_iald F 4 (n := 3264) (f := cT.1) rfl (12 * po + k) (by omega) (by omega) (by decide) dX7_looksAt_28 ?_
    refine J.top (congrArg iI (show cT.1 (12 * po + k) = ((((posT.getD po []).getD k 0) : Nat) : Int) from e1)) ?_
    refine j_iast F (ws' := moC g ad th cC cT (nup f k ((((posT.getD po []).getD k 0) : Nat) : Int), ((min k (posT.getD po []).length : Nat) : Int), cL.2.2.1, cL.2.2.2.1, cL.2.2.2.2.1, cL.2.2.2.2.2.1, cL.2.2.2.2.2.2.1, cL.2.2.2.2.2.2.2) cP) 10 (n := 12) (f := f) rfl k (rfl) (by omega) (by decide) rfl dX7_looksAt_29 ?_
    refine j_aload_n F dX7_looksAt_30 rfl 1 rfl ?_
    refine j_dup F dX7_looksAt_31 rfl ?_
    refine j_getf F (ref := "CairnGameModel") (C := RX7) (T := TX7) (N := 27) (ci := 7) (index := 79) (v := .int (iI ((min k (posT.getD po []).length : Nat) : Int))) (fun w h => (List.mem_cons_of_mem _ (List.mem_append_right _ h))) 0 rfl rfl 15 (by decide) (List.mem_cons_of_mem _ (List.mem_append_left _ (List.mem_of_getElem? (i := 0) rfl))) rfl rfl dX7_looksAt_32 ?_
    refine j_aload_n F dX7_looksAt_35 rfl 1 rfl ?_
    refine j_getf F (ref := "CairnGameModel") (C := RX7) (T := TX7) (N := 27) (ci := 7) (index := 37) (v := .ref (ad 14)) (fun w h => (List.mem_cons_of_mem _ (List.mem_append_right _ h))) 0 rfl rfl 14 (by decide) (List.mem_cons_of_mem _ (List.mem_append_left _ (List.mem_of_getElem? (i := 1) rfl))) rfl rfl dX7_looksAt_36 ?_
    refine j_iload_n F dX7_looksAt_39 rfl 0 rfl ?_
    refine j_iald F 10 (n := 12) (f := (nup f k ((((posT.getD po []).getD k 0) : Nat) : Int))) rfl k (rfl) (by omega) (by decide) dX7_looksAt_40 ?_
    refine J.top (congrArg iI (show (nup f k ((((posT.getD po []).getD k 0) : Nat) : Int)) k = ((((posT.getD po []).getD k 0) : Nat) : Int) from nup_s _ _ _)) ?_
    refine j_if_le F (tgt := 48) dX7_looksAt_41 (by decide) (by unfold rg; omega) (fun c41 => ?_) (fun c41 => ?_)
    · have w9 : ¬ k < (posT.getD po []).length := fun w => by have := e3 w; omega
      refine j_iconst F dX7_looksAt_48 ?_
      refine j_iadd F dX7_looksAt_49 ?_
      refine J.top (congrArg iI (show (((min k (posT.getD po []).length : Nat) : Int) + 0) = (((min (k + 1) (posT.getD po []).length) : Nat) : Int) from by omega)) ?_
      refine j_putf F (ref := "CairnGameModel") (C := RX7) (T := TX7) (N := 27) (ci := 7) (index := 79) (ty := .int) (ws' := moC g ad th cC cT (nup f k ((((posT.getD po []).getD k 0) : Nat) : Int), (((min (k + 1) (posT.getD po []).length) : Nat) : Int), cL.2.2.1, cL.2.2.2.1, cL.2.2.2.2.1, cL.2.2.2.2.2.1, cL.2.2.2.2.2.2.1, cL.2.2.2.2.2.2.2) cP) (fun w h => (List.mem_cons_of_mem _ (List.mem_append_right _ h))) tyX7 tyX7_ok nmX7 0 rfl rfl 15 (by decide) (List.mem_cons_of_mem _ (List.mem_append_left _ (List.mem_of_getElem? (i := 0) rfl))) rfl rfl rfl rfl rfl (lt_ble rfl) rfl dX7_looksAt_50 ?_
      refine j_iinc F (lv' := [(2, .int (iI ((k : Int) + 1))), (0, .ref (ad 0)), (1, .int (iI (po : Int)))]) dX7_looksAt_53 0 rfl (by decide) rfl ?_
      refine j_goto F (tgt := 7) dX7_looksAt_56 (by decide) ?_
      refine J.loc [0, 1, 2] rfl ?_
      exact ih7 ((k + 1), nup f k ((((posT.getD po []).getD k 0) : Nat) : Int)) (by show (k + 1) ≤ 12 ∧ ∀ j, j < (k + 1) → (nup f k ((((posT.getD po []).getD k 0) : Nat) : Int)) j = (((posT.getD po []).getD j 0 : Nat) : Int); exact ⟨by omega, fun j hj => (by by_cases w : j = k; (rw [w, nup_s]); rw [nup_n _ _ w]; exact i2 j (by omega))⟩) (by show 12 - (k + 1) < 12 - k; omega)
    · have w9 : k < (posT.getD po []).length := by rcases Nat.lt_or_ge k (posT.getD po []).length with w | w; (exact w); have := e4 w; omega
      refine j_iconst F dX7_looksAt_44 ?_
      refine j_goto F (tgt := 49) dX7_looksAt_45 (by decide) ?_
      refine j_iadd F dX7_looksAt_49 ?_
      refine J.top (congrArg iI (show (((min k (posT.getD po []).length : Nat) : Int) + 1) = (((min (k + 1) (posT.getD po []).length) : Nat) : Int) from by omega)) ?_
      refine j_putf F (ref := "CairnGameModel") (C := RX7) (T := TX7) (N := 27) (ci := 7) (index := 79) (ty := .int) (ws' := moC g ad th cC cT (nup f k ((((posT.getD po []).getD k 0) : Nat) : Int), (((min (k + 1) (posT.getD po []).length) : Nat) : Int), cL.2.2.1, cL.2.2.2.1, cL.2.2.2.2.1, cL.2.2.2.2.2.1, cL.2.2.2.2.2.2.1, cL.2.2.2.2.2.2.2) cP) (fun w h => (List.mem_cons_of_mem _ (List.mem_append_right _ h))) tyX7 tyX7_ok nmX7 0 rfl rfl 15 (by decide) (List.mem_cons_of_mem _ (List.mem_append_left _ (List.mem_of_getElem? (i := 0) rfl))) rfl rfl rfl rfl rfl (lt_ble rfl) rfl dX7_looksAt_50 ?_
      refine j_iinc F (lv' := [(2, .int (iI ((k : Int) + 1))), (0, .ref (ad 0)), (1, .int (iI (po : Int)))]) dX7_looksAt_53 0 rfl (by decide) rfl ?_
      refine j_goto F (tgt := 7) dX7_looksAt_56 (by decide) ?_
      refine J.loc [0, 1, 2] rfl ?_
      exact ih7 ((k + 1), nup f k ((((posT.getD po []).getD k 0) : Nat) : Int)) (by show (k + 1) ≤ 12 ∧ ∀ j, j < (k + 1) → (nup f k ((((posT.getD po []).getD k 0) : Nat) : Int)) j = (((posT.getD po []).getD j 0 : Nat) : Int); exact ⟨by omega, fun j hj => (by by_cases w : j = k; (rw [w, nup_s]); rw [nup_n _ _ w]; exact i2 j (by omega))⟩) (by show 12 - (k + 1) < 12 - k; omega)

def bhW (G S M : Nat) (L : List Nat) : List VT := (mvL G S M L).map fun m => val G S M (apL L m.1 m.2.1 m.2.2)
theorem bhW_len (G S M : Nat) (L : List Nat) : (bhW G S M L).length = (mvL G S M L).length := List.length_map _
theorem bhW_at {G S M : Nat} {L : List Nat} {j : Nat} (h : j < (mvL G S M L).length) : (bhW G S M L).getD j v0 = val G S M (bhM G S M L j) := by
  unfold bhW bhM
  rw [List.getD_eq_getElem?_getD, List.getElem?_map, List.getElem?_eq_getElem h, List.getD_eq_getElem?_getD, List.getElem?_eq_getElem h]
  rfl
/-- what the loop over the moves holds -/
def kwF (vs : List VT) (j : Nat) : Nat := if vs.length = 0 then 1 else wnL (vs.take j)
def kfF (vs : List VT) (j : Nat) : Nat := if vs.length = 0 then 0 else mnL (vs.take j)
def kxF (vs : List VT) (j : Nat) : Nat := mxL (vs.take j)
theorem kw_s {vs : List VT} {j : Nat} (h : j < vs.length) : kwF vs (j + 1) = if (vs.getD j v0).2.1 = 0 then 1 else kwF vs j := by
  have hn : ¬ vs.length = 0 := by omega
  unfold kwF
  rw [if_neg hn, if_neg hn, take_s v0 h, wnL_app]
  have h1 := wnL_01 (vs.take j)
  by_cases q : wnL (vs.take j) = 1
  · rw [if_pos q]; split <;> omega
  · rw [if_neg q]
    by_cases w : (vs.getD j v0).2.1 = 0
    · rw [if_pos w, if_pos w]
    · rw [if_neg w, if_neg w]; omega
theorem kf_s {vs : List VT} {j : Nat} (h : j < vs.length) : kfF vs (j + 1) = min (kfF vs j) ((vs.getD j v0).2.2.2 + 1) := by
  have hn : ¬ vs.length = 0 := by omega
  unfold kfF
  rw [if_neg hn, if_neg hn, take_s v0 h, mnL_app]
theorem kx_s {vs : List VT} {j : Nat} (h : j < vs.length) : kxF vs (j + 1) = max (kxF vs j) ((vs.getD j v0).2.2.1 + 1) := by
  unfold kxF
  rw [take_s v0 h, mxL_app]
theorem k_b {vs : List VT} (hb : ∀ v ∈ vs, v.2.2.1 ≤ 23) (j : Nat) : kwF vs j ≤ 1 ∧ kfF vs j ≤ 1000 ∧ kxF vs j ≤ 24 := by
  refine ⟨?_, ?_, ?_⟩
  · unfold kwF; split
    · exact Nat.le_refl 1
    · exact wnL_01 _
  · unfold kfF; split
    · exact Nat.zero_le _
    · exact mnL_k _
  · exact mxL_le (fun v hv => Nat.succ_le_succ (hb v (List.mem_of_mem_take hv)))
theorem comb_k (vs : List VT) : combV vs = (mexF (vs.map (fun w => w.1)) 63 0, kwF vs vs.length, kxF vs vs.length, kfF vs vs.length) := by
  cases vs with
  | nil => rfl
  | cons v l =>
    rw [combV_c (List.cons_ne_nil v l)]
    unfold kwF kfF kxF
    rw [if_neg (by simp), if_neg (by simp), List.take_length]
def tabR (G S M : Nat) (T : TT) (j : Nat) : Prop := ∀ p, p < j → T.2.2.2.1 p = (((val G S M (posT.getD p [])).1 : Nat) : Int) ∧ T.2.2.2.2.1 p = (((val G S M (posT.getD p [])).2.1 : Nat) : Int) ∧ T.2.2.2.2.2.1 p = (((val G S M (posT.getD p [])).2.2.1 : Nat) : Int) ∧ T.2.2.2.2.2.2.1 p = (((val G S M (posT.getD p [])).2.2.2 : Nat) : Int)
theorem mono_at : ∀ {l : List (List Nat)}, mono l = true → ∀ {i j : Nat}, i ≤ j → j < l.length → keyN (l.getD i []) ≤ keyN (l.getD j [])
  | [], _, _, _, _, h => absurd h (Nat.not_lt_zero _)
  | [p], _, i, j, h1, h2 => by
    have : j = 0 := by simp only [List.length_cons, List.length_nil] at h2; omega
    have : i = 0 := by omega
    subst_vars
    exact Nat.le_refl _
  | p :: q :: l, h, i, j, h1, h2 => by
    rw [mono, Bool.and_eq_true] at h
    match i, j with
    | 0, 0 => exact Nat.le_refl _
    | 0, j + 1 => exact Nat.le_trans (of_decide_eq_true h.1) (mono_at (l := q :: l) h.2 (Nat.zero_le j) (Nat.lt_of_succ_lt_succ h2))
    | i + 1, 0 => exact absurd h1 (Nat.not_succ_le_zero i)
    | i + 1, j + 1 => exact mono_at (l := q :: l) h.2 (Nat.le_of_succ_le_succ h1) (Nat.lt_of_succ_lt_succ h2)
theorem key_lt {p q : Nat} (hq : q < 272) (h : keyN (posT.getD q []) < keyN (posT.getD p [])) : q < p := by
  rcases Nat.lt_or_ge q p with w | w
  · exact w
  · have := mono_at posT_mono w (by rw [posT_len]; exact hq)
    omega
theorem apL_len1 {g sp mg : Nat} {L : List Nat} {m : Mv} (hm : okM g sp mg L m) : L.length ≤ (apL L m.1 m.2.1 m.2.2).length + 1 := by
  obtain ⟨hq, ⟨h0, h1⟩ | ⟨h0, h1⟩ | ⟨h0, h1, h2, h3⟩⟩ := hm
  · rw [h0, apL_0]
    split
    · have := er_len hq; omega
    · rw [List.length_set]; omega
  · rw [h0, apL_1]
    have := spA_len m.2.2 (L.getD m.2.1 0 - m.2.2) hq
    omega
  · rw [h0, apL_2]
    have := er_len (L := L.set (min m.2.1 m.2.2) (L.getD m.2.1 0 + L.getD m.2.2 0 - 1)) (i := max m.2.1 m.2.2) (by rw [List.length_set]; omega)
    rw [List.length_set] at this
    omega
theorem key_behind {g sp mg : Nat} {L : List Nat} {m : Mv} (h : okH L) (hm : okM g sp mg L m) : keyN (sortL (apL L m.1 m.2.1 m.2.2)) < keyN L := by
  obtain ⟨h1, -, h2⟩ := ap_ok h hm
  have e1 := sm_perm (sortL_perm (apL L m.1 m.2.1 m.2.2))
  have e2 := sortL_len (apL L m.1 m.2.1 m.2.2)
  have l1 := sm_len h1.1
  have l2 := sm_len h.1
  unfold keyN
  rw [e1, e2]
  have hl : L.length ≤ (apL L m.1 m.2.1 m.2.2).length + 1 := apL_len1 hm
  have l3 := h.2
  omega

theorem bag_w {vs : List VT} {j B : Nat} (h : bagI vs j B ((wnL (vs.take j) : Nat) : Int)) (hj : j < vs.length) (hb : (vs.getD j v0).1 ≤ 23) : bagI vs (j + 1) (B ||| 2 ^ (vs.getD j v0).1) ((wnL (vs.take (j + 1)) : Nat) : Int) := by
  refine bagI_s h hj hb ?_
  rw [take_s v0 hj, wnL_app]
  by_cases q : wnL (vs.take j) = 1
  · rw [if_pos q, if_pos (show ((wnL (vs.take j) : Nat) : Int) = 1 by omega)]; rfl
  · rw [if_neg q, if_neg (show ¬ ((wnL (vs.take j) : Nat) : Int) = 1 by omega)]
    split <;> rfl
theorem bhW_b {G S M : Nat} {L : List Nat} (hL : okH L) : ∀ v ∈ bhW G S M L, v.1 ≤ 23 ∧ v.2.1 ≤ 1 ∧ v.2.2.1 ≤ 23 ∧ v.2.2.2 ≤ 23 := by
  intro v hv
  unfold bhW at hv
  obtain ⟨m, hm, e⟩ := List.mem_map.mp hv
  rw [← e]
  exact val_b (ap_ok hL (mem_mvL.mp hm)).1

set_option maxHeartbeats 1000000 in
set_option maxRecDepth 100000 in
theorem c_X7_knows {l : Launch} (hfl : l.flags = flags0) (D : va_G) (g : GT) (z : ZT) (ad : Nat → Nat) (th : Int) (cC : CT) (cT : TT) (cL : LT) (cP : PT) (L1 : List Nat) (G S M Nn : Nat) (c3 : C3) (po : Nat) (hp : po < 272) (hP : posR cT) (hG : 1 ≤ G ∧ G ≤ 5) (hS : S ≤ 1) (hM : M ≤ 1) (hN : Nn ≤ 1) (hst : stM cC.1 L1 G S M Nn c3) (hT : tabR G S M cT po) : CV l yX7_knows wsX7_knows 4 96 1 D g z [.ref (ad 0), .int (iI (po : Int))] (moC g ad th cC cT cL cP) (fun (u9 : LT) => True) (fun (u9 : LT) => moC g ad th cC (cT.1, cT.2.1, cT.2.2.1, (nup cT.2.2.2.1 po (((val G S M (posT.getD po [])).1 : Nat) : Int)), (nup cT.2.2.2.2.1 po (((val G S M (posT.getD po [])).2.1 : Nat) : Int)), (nup cT.2.2.2.2.2.1 po (((val G S M (posT.getD po [])).2.2.1 : Nat) : Int)), (nup cT.2.2.2.2.2.2.1 po (((val G S M (posT.getD po [])).2.2.2 : Nat) : Int)), cT.2.2.2.2.2.2.2) u9 cP) 0 0 := by
  refine CV_of hfl (own := RX7) ⟨3, 0, 0, 68⟩ 4 96 1 (by decide +kernel) rfl rfl ⟨by decide, by decide, by decide +kernel⟩ ⟨by decide, by decide⟩ (le_ble rfl) ?_
  intro p e s m below meth c A Q F hin ret
  change J p l e _ s m _ below meth c A D _ Q 0 0 (moC g ad th cC cT cL cP) [(0, .ref (ad 0)), (1, .int (iI (po : Int)))] [] 0
  have hH := posT_H hp
  have hvl := bhW_len G S M (posT.getD po [])
  have hl84 := mvL_len (g := G) (sp := S) (mg := M) hH
  refine j_aload_n F dX7_knows_0 rfl 0 rfl ?_
  refine j_iload_n F dX7_knows_1 rfl 1 rfl ?_
  refine j_callV_V F (As := [.int (iI (po : Int))]) (wr := []) (st := []) (c_X7_looksAt hfl D g z ad th cC cT cL cP L1 G S M Nn c3 po hp hP hG hS hM hN hst) (idx := 96) (C := RX7) gX7_knows_X7_looksAt rfl rfl [0, 1, 2, 3, 4, 5, 6, 7, 8, 9, 10, 11, 12, 13, 14] [] rfl rfl (by decide) (by decide) (by decide) (ci := 7) (q0 := 0) rfl rfl (by decide) (by decide) (le_ble rfl) ⟨by decide, by decide⟩ dX7_knows_2 ?_
  rintro u9 ⟨h9, h8⟩
  refine J.wsEq (ws2 := moC g ad th cC cT (u9.1, ((((posT.getD po [])).length : Nat) : Int), u9.2.1, u9.2.2.1, u9.2.2.2, (((mvL G S M (posT.getD po [])).length : Nat) : Int), cL.2.2.2.2.2.2.1, cL.2.2.2.2.2.2.2) cP) rfl ?_
  refine j_lconst F dX7_knows_5 ?_
  refine j_lstore_n F (lv' := [(2, .long 0), (0, .ref (ad 0)), (1, .int (iI (po : Int)))]) dX7_knows_6 rfl (by decide) rfl ?_
  refine j_aload_n F dX7_knows_7 rfl 1 rfl ?_
  refine j_getf F (ref := "CairnGameModel") (C := RX7) (T := TX7) (N := 27) (ci := 7) (index := 76) (v := .int (iI (((mvL G S M (posT.getD po [])).length : Nat) : Int))) (fun w h => (List.mem_cons_of_mem _ (List.mem_append_right _ h))) 0 rfl rfl 19 (by decide) (List.mem_cons_of_mem _ (List.mem_append_left _ (List.mem_append_left _ (List.mem_of_getElem? (l := wsX7_knows_r1) (i := 0) rfl)))) rfl rfl dX7_knows_8 ?_
  refine j_if_ne F (tgt := 18) dX7_knows_11 (by decide) (by unfold rg; omega) (fun c11 => ?_) (fun c11 => ?_)
  · have en : ¬ (bhW G S M (posT.getD po [])).length = 0 := by rw [bhW_len]; omega
    have f1 : kwF (bhW G S M (posT.getD po [])) 0 = 0 := by unfold kwF; rw [if_neg en, List.take_zero]; rfl
    have f2 : kfF (bhW G S M (posT.getD po [])) 0 = 1000 := by unfold kfF; rw [if_neg en, List.take_zero]; rfl
    refine j_iconst F dX7_knows_18 ?_
    refine j_istore F (lv' := [(4, .int (iI 0)), (2, .long 0), (0, .ref (ad 0)), (1, .int (iI (po : Int)))]) dX7_knows_19 (by decide) rfl ?_
    refine j_iconst F dX7_knows_21 ?_
    refine j_istore F (lv' := [(5, .int (iI 0)), (4, .int (iI 0)), (2, .long 0), (0, .ref (ad 0)), (1, .int (iI (po : Int)))]) dX7_knows_22 (by decide) rfl ?_
    refine j_aload_n F dX7_knows_24 rfl 3 rfl ?_
    refine j_getf F (ref := "CairnGameModel") (C := RX7) (T := TX7) (N := 27) (ci := 7) (index := 76) (v := .int (iI (((mvL G S M (posT.getD po [])).length : Nat) : Int))) (fun w h => (List.mem_cons_of_mem _ (List.mem_append_right _ h))) 0 rfl rfl 19 (by decide) (List.mem_cons_of_mem _ (List.mem_append_left _ (List.mem_append_left _ (List.mem_of_getElem? (l := wsX7_knows_r1) (i := 0) rfl)))) rfl rfl dX7_knows_25 ?_
    refine j_if_ne F (tgt := 35) dX7_knows_28 (by decide) (by unfold rg; omega) (fun c28 => ?_) (fun h9 => by exfalso; omega)
    refine j_sipush F dX7_knows_35 (by decide) ?_
    refine j_istore F (lv' := [(6, .int (iI 1000)), (5, .int (iI 0)), (4, .int (iI 0)), (2, .long 0), (0, .ref (ad 0)), (1, .int (iI (po : Int)))]) dX7_knows_38 (by decide) rfl ?_
    refine j_iconst F dX7_knows_40 ?_
    have f3 : kxF (bhW G S M (posT.getD po [])) 0 = 0 := by unfold kxF; rw [List.take_zero]; rfl
    refine J.lvEq (lv2 := [(6, .int (iI (((kfF (bhW G S M (posT.getD po [])) 0) : Nat) : Int))), (5, .int (iI (((kxF (bhW G S M (posT.getD po [])) 0) : Nat) : Int))), (4, .int (iI (((kwF (bhW G S M (posT.getD po [])) 0) : Nat) : Int))), (2, .long 0), (0, .ref (ad 0)), (1, .int (iI (po : Int)))]) (by rw [f1, f2, f3]; rfl) ?_
    refine j_istore F (lv' := [(7, .int (iI 0)), (6, .int (iI (((kfF (bhW G S M (posT.getD po [])) 0) : Nat) : Int))), (5, .int (iI (((kxF (bhW G S M (posT.getD po [])) 0) : Nat) : Int))), (4, .int (iI (((kwF (bhW G S M (posT.getD po [])) 0) : Nat) : Int))), (2, .long 0), (0, .ref (ad 0)), (1, .int (iI (po : Int)))]) dX7_knows_41 (by decide) rfl ?_
    refine J.loc [0, 1, 2, 3, 4, 5, 6] rfl ?_
    refine J_loop (σ := Nat × Nat × NF × Int) (fun x9 : Nat × Nat × NF × Int => match x9 with | (j, B, bf, nb) => bagI (bhW G S M (posT.getD po [])) j B ((wnL ((bhW G S M (posT.getD po [])).take j) : Nat) : Int)) (fun x9 : Nat × Nat × NF × Int => match x9 with | (j, B, bf, nb) => (bhW G S M (posT.getD po [])).length - j) (fun x9 : Nat × Nat × NF × Int => match x9 with | (j, B, bf, nb) => moC g ad th cC cT (u9.1, ((((posT.getD po [])).length : Nat) : Int), u9.2.1, u9.2.2.1, u9.2.2.2, (((mvL G S M (posT.getD po [])).length : Nat) : Int), bf, nb) cP) (fun x9 : Nat × Nat × NF × Int => match x9 with | (j, B, bf, nb) => [(7, .int (iI (j : Int))), (6, .int (iI (((kfF (bhW G S M (posT.getD po [])) j) : Nat) : Int))), (5, .int (iI (((kxF (bhW G S M (posT.getD po [])) j) : Nat) : Int))), (4, .int (iI (((kwF (bhW G S M (posT.getD po [])) j) : Nat) : Int))), (2, .long (lN B)), (0, .ref (ad 0)), (1, .int (iI (po : Int)))]) (0, 0, cL.2.2.2.2.2.2.1, cL.2.2.2.2.2.2.2) (by show bagI (bhW G S M (posT.getD po [])) 0 0 ((wnL ((bhW G S M (posT.getD po [])).take 0) : Nat) : Int); exact (by rw [List.take_zero]; exact bagI_0 _)) ?_
    rintro ⟨j, B, bf, nb⟩ hI ih43
    have hI : bagI (bhW G S M (posT.getD po [])) j B ((wnL ((bhW G S M (posT.getD po [])).take j) : Nat) : Int) := hI
    have kb := k_b (vs := (bhW G S M (posT.getD po []))) (fun v hv => (bhW_b hH v hv).2.2.1) j
    have hjl := hI.1
    refine j_iload F dX7_knows_43 0 rfl ?_
    refine j_aload_n F dX7_knows_45 rfl 5 rfl ?_
    refine j_getf F (ref := "CairnGameModel") (C := RX7) (T := TX7) (N := 27) (ci := 7) (index := 76) (v := .int (iI (((mvL G S M (posT.getD po [])).length : Nat) : Int))) (fun w h => (List.mem_cons_of_mem _ (List.mem_append_right _ h))) 0 rfl rfl 19 (by decide) (List.mem_cons_of_mem _ (List.mem_append_left _ (List.mem_append_left _ (List.mem_of_getElem? (l := wsX7_knows_r1) (i := 0) rfl)))) rfl rfl dX7_knows_46 ?_
    refine j_icmp_ge F (tgt := 156) dX7_knows_49 (by decide) ⟨(by unfold rg; omega), (by unfold rg; omega)⟩ (fun c49 => ?_) (fun c49 => ?_)
    · have ej : j = (bhW G S M (posT.getD po [])).length := by rw [bhW_len] at *; omega
      rw [ej] at hI
      have hmem := bagI_mem hI
      have hB24 := hI.2.1
      have ev : val G S M (posT.getD po []) = combV (bhW G S M (posT.getD po [])) := val_eq hH
      rw [comb_k] at ev
      refine j_iconst F dX7_knows_156 ?_
      refine j_istore F (lv' := [(7, .int (iI 0)), (6, .int (iI (((kfF (bhW G S M (posT.getD po [])) j) : Nat) : Int))), (5, .int (iI (((kxF (bhW G S M (posT.getD po [])) j) : Nat) : Int))), (4, .int (iI (((kwF (bhW G S M (posT.getD po [])) j) : Nat) : Int))), (2, .long (lN B)), (0, .ref (ad 0)), (1, .int (iI (po : Int)))]) dX7_knows_157 (by decide) rfl ?_
      refine J.loc [0, 1, 2, 3, 4, 5, 6] rfl ?_
      refine J_loop (σ := Nat) (fun i : Nat => i ≤ 24 ∧ mexF ((bhW G S M (posT.getD po [])).map (fun w => w.1)) (63 - i) i = mexF ((bhW G S M (posT.getD po [])).map (fun w => w.1)) 63 0) (fun i : Nat => 24 - i) (fun i : Nat => moC g ad th cC cT (u9.1, ((((posT.getD po [])).length : Nat) : Int), u9.2.1, u9.2.2.1, u9.2.2.2, (((mvL G S M (posT.getD po [])).length : Nat) : Int), bf, nb) cP) (fun i : Nat => [(7, .int (iI (i : Int))), (6, .int (iI (((kfF (bhW G S M (posT.getD po [])) j) : Nat) : Int))), (5, .int (iI (((kxF (bhW G S M (posT.getD po [])) j) : Nat) : Int))), (4, .int (iI (((kwF (bhW G S M (posT.getD po [])) j) : Nat) : Int))), (2, .long (lN B)), (0, .ref (ad 0)), (1, .int (iI (po : Int)))]) (0) (by show 0 ≤ 24 ∧ mexF ((bhW G S M (posT.getD po [])).map (fun w => w.1)) (63 - 0) 0 = mexF ((bhW G S M (posT.getD po [])).map (fun w => w.1)) 63 0; exact ⟨Nat.zero_le _, rfl⟩) ?_
      rintro i hI ih159
      have hI : i ≤ 24 ∧ mexF ((bhW G S M (posT.getD po [])).map (fun w => w.1)) (63 - i) i = mexF ((bhW G S M (posT.getD po [])).map (fun w => w.1)) 63 0 := hI
      obtain ⟨m1, m2⟩ := hI
      refine j_lload_n F dX7_knows_159 rfl 4 rfl ?_
      refine j_iload F dX7_knows_160 0 rfl ?_
      refine j_lshr F rfl dX7_knows_162 ?_
      refine j_lconst F dX7_knows_163 ?_
      refine j_land F dX7_knows_164 ?_
      refine j_lconst F dX7_knows_165 ?_
      refine j_lcmp F dX7_knows_166 ?_
      refine j_ifl_ne F (tgt := 176) dX7_knows_167 (by decide) (fun c167 => ?_) (fun c167 => ?_)
      · have ei := mex_end m2 (Or.inr (fun w => c167 ((lb_bit (by omega)).mpr ((hmem i).mpr w)))) (by omega)
        refine j_aload_n F dX7_knows_176 rfl 5 rfl ?_
        refine j_getf F (ref := "CairnGameModel") (C := RX7) (T := TX7) (N := 27) (ci := 7) (index := 25) (v := .ref (ad 9)) (fun w h => (List.mem_cons_of_mem _ (List.mem_append_right _ h))) 0 rfl rfl 9 (by decide) (List.mem_cons_of_mem _ (List.mem_append_left _ (List.mem_append_left _ (List.mem_of_getElem? (l := wsX7_knows_r1) (i := 1) rfl)))) rfl rfl dX7_knows_177 ?_
        refine j_iload_n F dX7_knows_180 rfl 6 rfl ?_
        refine j_iload F dX7_knows_181 0 rfl ?_
        refine J.top (congrArg iI (show (i : Int) = ((((val G S M (posT.getD po [])).1) : Nat) : Int) from by rw [ei, ev])) ?_
        refine j_iast F (ws' := moC g ad th cC (cT.1, cT.2.1, cT.2.2.1, nup cT.2.2.2.1 po ((((val G S M (posT.getD po [])).1) : Nat) : Int), cT.2.2.2.2.1, cT.2.2.2.2.2.1, cT.2.2.2.2.2.2.1, cT.2.2.2.2.2.2.2) (u9.1, ((((posT.getD po [])).length : Nat) : Int), u9.2.1, u9.2.2.1, u9.2.2.2, (((mvL G S M (posT.getD po [])).length : Nat) : Int), bf, nb) cP) 6 (n := 272) (f := cT.2.2.2.1) rfl po (rfl) (by omega) (by decide) rfl dX7_knows_183 ?_
        refine j_aload_n F dX7_knows_184 rfl 5 rfl ?_
        refine j_getf F (ref := "CairnGameModel") (C := RX7) (T := TX7) (N := 27) (ci := 7) (index := 28) (v := .ref (ad 10)) (fun w h => (List.mem_cons_of_mem _ (List.mem_append_right _ h))) 0 rfl rfl 10 (by decide) (List.mem_cons_of_mem _ (List.mem_append_left _ (List.mem_append_left _ (List.mem_of_getElem? (l := wsX7_knows_r1) (i := 2) rfl)))) rfl rfl dX7_knows_185 ?_
        refine j_iload_n F dX7_knows_188 rfl 6 rfl ?_
        refine j_iload F dX7_knows_189 3 rfl ?_
        refine J.top (congrArg iI (show (((kwF (bhW G S M (posT.getD po [])) j) : Nat) : Int) = ((((val G S M (posT.getD po [])).2.1) : Nat) : Int) from by rw [ev, ej])) ?_
        refine j_iast F (ws' := moC g ad th cC (cT.1, cT.2.1, cT.2.2.1, nup cT.2.2.2.1 po ((((val G S M (posT.getD po [])).1) : Nat) : Int), nup cT.2.2.2.2.1 po ((((val G S M (posT.getD po [])).2.1) : Nat) : Int), cT.2.2.2.2.2.1, cT.2.2.2.2.2.2.1, cT.2.2.2.2.2.2.2) (u9.1, ((((posT.getD po [])).length : Nat) : Int), u9.2.1, u9.2.2.1, u9.2.2.2, (((mvL G S M (posT.getD po [])).length : Nat) : Int), bf, nb) cP) 7 (n := 272) (f := cT.2.2.2.2.1) rfl po (rfl) (by omega) (by decide) rfl dX7_knows_191 ?_
        refine j_aload_n F dX7_knows_192 rfl 5 rfl ?_
        refine j_getf F (ref := "CairnGameModel") (C := RX7) (T := TX7) (N := 27) (ci := 7) (index := 31) (v := .ref (ad 11)) (fun w h => (List.mem_cons_of_mem _ (List.mem_append_right _ h))) 0 rfl rfl 11 (by decide) (List.mem_cons_of_mem _ (List.mem_append_left _ (List.mem_append_left _ (List.mem_of_getElem? (l := wsX7_knows_r1) (i := 3) rfl)))) rfl rfl dX7_knows_193 ?_
        refine j_iload_n F dX7_knows_196 rfl 6 rfl ?_
        refine j_iload F dX7_knows_197 2 rfl ?_
        refine J.top (congrArg iI (show (((kxF (bhW G S M (posT.getD po [])) j) : Nat) : Int) = ((((val G S M (posT.getD po [])).2.2.1) : Nat) : Int) from by rw [ev, ej])) ?_
        refine j_iast F (ws' := moC g ad th cC (cT.1, cT.2.1, cT.2.2.1, nup cT.2.2.2.1 po ((((val G S M (posT.getD po [])).1) : Nat) : Int), nup cT.2.2.2.2.1 po ((((val G S M (posT.getD po [])).2.1) : Nat) : Int), nup cT.2.2.2.2.2.1 po ((((val G S M (posT.getD po [])).2.2.1) : Nat) : Int), cT.2.2.2.2.2.2.1, cT.2.2.2.2.2.2.2) (u9.1, ((((posT.getD po [])).length : Nat) : Int), u9.2.1, u9.2.2.1, u9.2.2.2, (((mvL G S M (posT.getD po [])).length : Nat) : Int), bf, nb) cP) 8 (n := 272) (f := cT.2.2.2.2.2.1) rfl po (rfl) (by omega) (by decide) rfl dX7_knows_199 ?_
        refine j_aload_n F dX7_knows_200 rfl 5 rfl ?_
        refine j_getf F (ref := "CairnGameModel") (C := RX7) (T := TX7) (N := 27) (ci := 7) (index := 34) (v := .ref (ad 12)) (fun w h => (List.mem_cons_of_mem _ (List.mem_append_right _ h))) 0 rfl rfl 12 (by decide) (List.mem_cons_of_mem _ (List.mem_append_left _ (List.mem_append_left _ (List.mem_of_getElem? (l := wsX7_knows_r1) (i := 4) rfl)))) rfl rfl dX7_knows_201 ?_
        refine j_iload_n F dX7_knows_204 rfl 6 rfl ?_
        refine j_iload F dX7_knows_205 1 rfl ?_
        refine J.top (congrArg iI (show (((kfF (bhW G S M (posT.getD po [])) j) : Nat) : Int) = ((((val G S M (posT.getD po [])).2.2.2) : Nat) : Int) from by rw [ev, ej])) ?_
        refine j_iast F (ws' := moC g ad th cC (cT.1, cT.2.1, cT.2.2.1, nup cT.2.2.2.1 po ((((val G S M (posT.getD po [])).1) : Nat) : Int), nup cT.2.2.2.2.1 po ((((val G S M (posT.getD po [])).2.1) : Nat) : Int), nup cT.2.2.2.2.2.1 po ((((val G S M (posT.getD po [])).2.2.1) : Nat) : Int), nup cT.2.2.2.2.2.2.1 po ((((val G S M (posT.getD po [])).2.2.2) : Nat) : Int), cT.2.2.2.2.2.2.2) (u9.1, ((((posT.getD po [])).length : Nat) : Int), u9.2.1, u9.2.2.1, u9.2.2.2, (((mvL G S M (posT.getD po [])).length : Nat) : Int), bf, nb) cP) 9 (n := 272) (f := cT.2.2.2.2.2.2.1) rfl po (rfl) (by omega) (by decide) rfl dX7_knows_207 ?_
        exact ret (u9.1, ((((posT.getD po [])).length : Nat) : Int), u9.2.1, u9.2.2.1, u9.2.2.2, (((mvL G S M (posT.getD po [])).length : Nat) : Int), bf, nb) 0 0 _ _ dX7_knows_208 (by decide) (by decide) trivial
      · have hbit := (lb_bit (by omega)).mp c167
        have hi24 : i + 1 ≤ 24 := by rcases Nat.lt_or_ge i 24 with w | w; (omega); rw [Nat.testBit_lt_two_pow (Nat.lt_of_lt_of_le hB24 (Nat.pow_le_pow_right (by decide) w))] at hbit; exact absurd hbit (by decide)
        refine j_iinc F (lv' := [(7, .int (iI ((i : Int) + 1))), (6, .int (iI (((kfF (bhW G S M (posT.getD po [])) j) : Nat) : Int))), (5, .int (iI (((kxF (bhW G S M (posT.getD po [])) j) : Nat) : Int))), (4, .int (iI (((kwF (bhW G S M (posT.getD po [])) j) : Nat) : Int))), (2, .long (lN B)), (0, .ref (ad 0)), (1, .int (iI (po : Int)))]) dX7_knows_170 0 rfl (by decide) rfl ?_
        refine j_goto F (tgt := 159) dX7_knows_173 (by decide) ?_
        refine J.loc [0, 1, 2, 3, 4, 5, 6] rfl ?_
        exact ih159 (i + 1) (by show (i + 1) ≤ 24 ∧ mexF ((bhW G S M (posT.getD po [])).map (fun w => w.1)) (63 - (i + 1)) (i + 1) = mexF ((bhW G S M (posT.getD po [])).map (fun w => w.1)) 63 0; exact ⟨hi24, mex_step (by omega) m2 ((hmem i).mp hbit)⟩) (by show 24 - (i + 1) < 24 - i; omega)
    · have hj : j < (mvL G S M (posT.getD po [])).length := by omega
      have hjv : j < (bhW G S M (posT.getD po [])).length := by rw [bhW_len]; exact hj
      refine j_aload_n F dX7_knows_52 rfl 5 rfl ?_
      refine j_iload F dX7_knows_53 0 rfl ?_
      refine j_callV_I F (As := [.int (iI (j : Int))]) (wr := []) (st := []) (c_X7_positionBehind hfl D g z ad th cC cT cP (posT.getD po []) G S M u9.1 u9.2.1 u9.2.2.1 u9.2.2.2 bf nb j hH hP h9 h8 hj) (idx := 100) (C := RX7) gX7_knows_X7_positionBehind rfl rfl [0, 1, 2, 3, 4, 5, 6, 7, 8, 9, 10, 11, 12, 13, 14] [] rfl rfl (by decide) (by decide) (by decide) (ci := 7) (q0 := 0) rfl rfl (by decide) (by decide) (le_ble rfl) ⟨by decide, by decide⟩ dX7_knows_55 ?_
      rintro r7 u7 ⟨h7, q7, e7, b7, n7⟩
      subst h7
      have hlt : u7.2.2 < po := key_lt q7 (by rw [e7]; exact key_behind hH (mv_ok hj))
      obtain ⟨t1, t2, t3, t4⟩ := hT _ hlt
      have ev : val G S M (posT.getD u7.2.2 []) = ((bhW G S M (posT.getD po [])).getD j v0) := by rw [e7, bhW_at hj]; exact val_perm (sortL_perm _)
      rw [ev] at t1 t2 t3 t4
      obtain ⟨v1, v2, v3, v4⟩ := bhW_b hH _ (getD_memV hjv)
      have kw9 := kw_s hjv
      have kf9 := kf_s hjv
      have kx9 := kx_s hjv
      refine J.wsEq (ws2 := moC g ad th cC cT (u9.1, ((((posT.getD po [])).length : Nat) : Int), u9.2.1, u9.2.2.1, u9.2.2.2, (((mvL G S M (posT.getD po [])).length : Nat) : Int), u7.1, u7.2.1) cP) rfl ?_
      refine j_istore F (lv' := [(8, .int (iI ((u7.2.2 : Nat) : Int))), (7, .int (iI (j : Int))), (6, .int (iI (((kfF (bhW G S M (posT.getD po [])) j) : Nat) : Int))), (5, .int (iI (((kxF (bhW G S M (posT.getD po [])) j) : Nat) : Int))), (4, .int (iI (((kwF (bhW G S M (posT.getD po [])) j) : Nat) : Int))), (2, .long (lN B)), (0, .ref (ad 0)), (1, .int (iI (po : Int)))]) dX7_knows_58 (by decide) rfl ?_
      refine j_lload_n F dX7_knows_60 rfl 5 rfl ?_
      refine j_lconst F dX7_knows_61 ?_
      refine j_aload_n F dX7_knows_62 rfl 6 rfl ?_
      refine j_getf F (ref := "CairnGameModel") (C := RX7) (T := TX7) (N := 27) (ci := 7) (index := 25) (v := .ref (ad 9)) (fun w h => (List.mem_cons_of_mem _ (List.mem_append_right _ h))) 0 rfl rfl 9 (by decide) (List.mem_cons_of_mem _ (List.mem_append_left _ (List.mem_append_left _ (List.mem_of_getElem? (l := wsX7_knows_r1) (i := 1) rfl)))) rfl rfl dX7_knows_63 ?_
      refine j_iload F dX7_knows_66 0 rfl ?_
      refine j_iald F 6 (n := 272) (f := cT.2.2.2.1) rfl u7.2.2 (by omega) (by omega) (by decide) dX7_knows_68 ?_
      refine J.top (congrArg iI (show cT.2.2.2.1 u7.2.2 = ((((bhW G S M (posT.getD po [])).getD j v0).1 : Nat) : Int) from t1)) ?_
      refine j_lshl F rfl dX7_knows_69 ?_
      refine J.topL (show (1 <<< ((iI ((((bhW G S M (posT.getD po [])).getD j v0).1 : Nat) : Int)).toInt64 &&& 63)) = (lN (2 ^ ((bhW G S M (posT.getD po [])).getD j v0).1)) from lb_one _ (by omega)) ?_
      refine j_lor F dX7_knows_70 ?_
      refine J.topL (show ((lN B) ||| (lN (2 ^ ((bhW G S M (posT.getD po [])).getD j v0).1))) = (lN (B ||| 2 ^ ((bhW G S M (posT.getD po [])).getD j v0).1)) from lb_or _ _) ?_
      refine j_lstore_n F (lv' := [(2, .long (lN (B ||| 2 ^ ((bhW G S M (posT.getD po [])).getD j v0).1))), (8, .int (iI ((u7.2.2 : Nat) : Int))), (7, .int (iI (j : Int))), (6, .int (iI (((kfF (bhW G S M (posT.getD po [])) j) : Nat) : Int))), (5, .int (iI (((kxF (bhW G S M (posT.getD po [])) j) : Nat) : Int))), (4, .int (iI (((kwF (bhW G S M (posT.getD po [])) j) : Nat) : Int))), (0, .ref (ad 0)), (1, .int (iI (po : Int)))]) dX7_knows_71 rfl (by decide) rfl ?_
      refine j_aload_n F dX7_knows_72 rfl 6 rfl ?_
      refine j_getf F (ref := "CairnGameModel") (C := RX7) (T := TX7) (N := 27) (ci := 7) (index := 28) (v := .ref (ad 10)) (fun w h => (List.mem_cons_of_mem _ (List.mem_append_right _ h))) 0 rfl rfl 10 (by decide) (List.mem_cons_of_mem _ (List.mem_append_left _ (List.mem_append_left _ (List.mem_of_getElem? (l := wsX7_knows_r1) (i := 2) rfl)))) rfl rfl dX7_knows_73 ?_
      refine j_iload F dX7_knows_76 1 rfl ?_
      refine j_iald F 7 (n := 272) (f := cT.2.2.2.2.1) rfl u7.2.2 (by omega) (by omega) (by decide) dX7_knows_78 ?_
      refine J.top (congrArg iI (show cT.2.2.2.2.1 u7.2.2 = ((((bhW G S M (posT.getD po [])).getD j v0).2.1 : Nat) : Int) from t2)) ?_
      refine j_if_ne F (tgt := 86) dX7_knows_79 (by decide) (by unfold rg; omega) (fun c79 => ?_) (fun c79 => ?_)
      · refine j_iload F dX7_knows_86 5 rfl ?_
        refine j_istore F (lv' := [(4, .int (iI (((kwF (bhW G S M (posT.getD po [])) j) : Nat) : Int))), (2, .long (lN (B ||| 2 ^ ((bhW G S M (posT.getD po [])).getD j v0).1))), (8, .int (iI ((u7.2.2 : Nat) : Int))), (7, .int (iI (j : Int))), (6, .int (iI (((kfF (bhW G S M (posT.getD po [])) j) : Nat) : Int))), (5, .int (iI (((kxF (bhW G S M (posT.getD po [])) j) : Nat) : Int))), (0, .ref (ad 0)), (1, .int (iI (po : Int)))]) dX7_knows_88 (by decide) rfl ?_
        rw [if_neg (by omega)] at kw9
        refine J.lvEq (lv2 := [(4, .int (iI (((kwF (bhW G S M (posT.getD po [])) (j + 1)) : Nat) : Int))), (2, .long (lN (B ||| 2 ^ ((bhW G S M (posT.getD po [])).getD j v0).1))), (8, .int (iI ((u7.2.2 : Nat) : Int))), (7, .int (iI (j : Int))), (6, .int (iI (((kfF (bhW G S M (posT.getD po [])) j) : Nat) : Int))), (5, .int (iI (((kxF (bhW G S M (posT.getD po [])) j) : Nat) : Int))), (0, .ref (ad 0)), (1, .int (iI (po : Int)))]) (by rw [kw9]) ?_
        refine j_aload_n F dX7_knows_90 rfl 6 rfl ?_
        refine j_getf F (ref := "CairnGameModel") (C := RX7) (T := TX7) (N := 27) (ci := 7) (index := 31) (v := .ref (ad 11)) (fun w h => (List.mem_cons_of_mem _ (List.mem_append_right _ h))) 0 rfl rfl 11 (by decide) (List.mem_cons_of_mem _ (List.mem_append_left _ (List.mem_append_left _ (List.mem_of_getElem? (l := wsX7_knows_r1) (i := 3) rfl)))) rfl rfl dX7_knows_91 ?_
        refine j_iload F dX7_knows_94 2 rfl ?_
        refine j_iald F 8 (n := 272) (f := cT.2.2.2.2.2.1) rfl u7.2.2 (by omega) (by omega) (by decide) dX7_knows_96 ?_
        refine J.top (congrArg iI (show cT.2.2.2.2.2.1 u7.2.2 = ((((bhW G S M (posT.getD po [])).getD j v0).2.2.1 : Nat) : Int) from t3)) ?_
        refine j_iconst F dX7_knows_97 ?_
        refine j_iadd F dX7_knows_98 ?_
        refine j_iload F dX7_knows_99 5 rfl ?_
        refine j_icmp_le F (tgt := 116) dX7_knows_101 (by decide) ⟨(by unfold rg; omega), (by unfold rg; omega)⟩ (fun c101 => ?_) (fun c101 => ?_)
        · refine j_iload F dX7_knows_116 5 rfl ?_
          refine j_istore F (lv' := [(5, .int (iI (((kxF (bhW G S M (posT.getD po [])) j) : Nat) : Int))), (4, .int (iI (((kwF (bhW G S M (posT.getD po [])) (j + 1)) : Nat) : Int))), (2, .long (lN (B ||| 2 ^ ((bhW G S M (posT.getD po [])).getD j v0).1))), (8, .int (iI ((u7.2.2 : Nat) : Int))), (7, .int (iI (j : Int))), (6, .int (iI (((kfF (bhW G S M (posT.getD po [])) j) : Nat) : Int))), (0, .ref (ad 0)), (1, .int (iI (po : Int)))]) dX7_knows_118 (by decide) rfl ?_
          rw [show max (kxF (bhW G S M (posT.getD po [])) j) (((bhW G S M (posT.getD po [])).getD j v0).2.2.1 + 1) = kxF (bhW G S M (posT.getD po [])) j by omega] at kx9
          refine J.lvEq (lv2 := [(5, .int (iI (((kxF (bhW G S M (posT.getD po [])) (j + 1)) : Nat) : Int))), (4, .int (iI (((kwF (bhW G S M (posT.getD po [])) (j + 1)) : Nat) : Int))), (2, .long (lN (B ||| 2 ^ ((bhW G S M (posT.getD po [])).getD j v0).1))), (8, .int (iI ((u7.2.2 : Nat) : Int))), (7, .int (iI (j : Int))), (6, .int (iI (((kfF (bhW G S M (posT.getD po [])) j) : Nat) : Int))), (0, .ref (ad 0)), (1, .int (iI (po : Int)))]) (by rw [kx9]) ?_
          refine j_aload_n F dX7_knows_120 rfl 6 rfl ?_
          refine j_getf F (ref := "CairnGameModel") (C := RX7) (T := TX7) (N := 27) (ci := 7) (index := 34) (v := .ref (ad 12)) (fun w h => (List.mem_cons_of_mem _ (List.mem_append_right _ h))) 0 rfl rfl 12 (by decide) (List.mem_cons_of_mem _ (List.mem_append_left _ (List.mem_append_left _ (List.mem_of_getElem? (l := wsX7_knows_r1) (i := 4) rfl)))) rfl rfl dX7_knows_121 ?_
          refine j_iload F dX7_knows_124 3 rfl ?_
          refine j_iald F 9 (n := 272) (f := cT.2.2.2.2.2.2.1) rfl u7.2.2 (by omega) (by omega) (by decide) dX7_knows_126 ?_
          refine J.top (congrArg iI (show cT.2.2.2.2.2.2.1 u7.2.2 = ((((bhW G S M (posT.getD po [])).getD j v0).2.2.2 : Nat) : Int) from t4)) ?_
          refine j_iconst F dX7_knows_127 ?_
          refine j_iadd F dX7_knows_128 ?_
          refine j_iload F dX7_knows_129 5 rfl ?_
          refine j_icmp_ge F (tgt := 146) dX7_knows_131 (by decide) ⟨(by unfold rg; omega), (by unfold rg; omega)⟩ (fun c131 => ?_) (fun c131 => ?_)
          · refine j_iload F dX7_knows_146 5 rfl ?_
            refine j_istore F (lv' := [(6, .int (iI (((kfF (bhW G S M (posT.getD po [])) j) : Nat) : Int))), (5, .int (iI (((kxF (bhW G S M (posT.getD po [])) (j + 1)) : Nat) : Int))), (4, .int (iI (((kwF (bhW G S M (posT.getD po [])) (j + 1)) : Nat) : Int))), (2, .long (lN (B ||| 2 ^ ((bhW G S M (posT.getD po [])).getD j v0).1))), (8, .int (iI ((u7.2.2 : Nat) : Int))), (7, .int (iI (j : Int))), (0, .ref (ad 0)), (1, .int (iI (po : Int)))]) dX7_knows_148 (by decide) rfl ?_
            rw [show min (kfF (bhW G S M (posT.getD po [])) j) (((bhW G S M (posT.getD po [])).getD j v0).2.2.2 + 1) = kfF (bhW G S M (posT.getD po [])) j by omega] at kf9
            refine J.lvEq (lv2 := [(6, .int (iI (((kfF (bhW G S M (posT.getD po [])) (j + 1)) : Nat) : Int))), (5, .int (iI (((kxF (bhW G S M (posT.getD po [])) (j + 1)) : Nat) : Int))), (4, .int (iI (((kwF (bhW G S M (posT.getD po [])) (j + 1)) : Nat) : Int))), (2, .long (lN (B ||| 2 ^ ((bhW G S M (posT.getD po [])).getD j v0).1))), (8, .int (iI ((u7.2.2 : Nat) : Int))), (7, .int (iI (j : Int))), (0, .ref (ad 0)), (1, .int (iI (po : Int)))]) (by rw [kf9]) ?_
            refine j_iinc F (lv' := [(7, .int (iI ((j : Int) + 1))), (6, .int (iI (((kfF (bhW G S M (posT.getD po [])) (j + 1)) : Nat) : Int))), (5, .int (iI (((kxF (bhW G S M (posT.getD po [])) (j + 1)) : Nat) : Int))), (4, .int (iI (((kwF (bhW G S M (posT.getD po [])) (j + 1)) : Nat) : Int))), (2, .long (lN (B ||| 2 ^ ((bhW G S M (posT.getD po [])).getD j v0).1))), (8, .int (iI ((u7.2.2 : Nat) : Int))), (0, .ref (ad 0)), (1, .int (iI (po : Int)))]) dX7_knows_150 5 rfl (by decide) rfl ?_
            refine j_goto F (tgt := 43) dX7_knows_153 (by decide) ?_
            refine J.loc [0, 1, 2, 3, 4, 6, 7] rfl ?_
            exact ih43 ((j + 1), (B ||| 2 ^ ((bhW G S M (posT.getD po [])).getD j v0).1), u7.1, u7.2.1) (by show bagI (bhW G S M (posT.getD po [])) (j + 1) (B ||| 2 ^ ((bhW G S M (posT.getD po [])).getD j v0).1) ((wnL ((bhW G S M (posT.getD po [])).take (j + 1)) : Nat) : Int); exact bag_w hI hjv (by omega)) (by show (bhW G S M (posT.getD po [])).length - (j + 1) < (bhW G S M (posT.getD po [])).length - j; omega)
          · refine j_aload_n F dX7_knows_134 rfl 6 rfl ?_
            refine j_getf F (ref := "CairnGameModel") (C := RX7) (T := TX7) (N := 27) (ci := 7) (index := 34) (v := .ref (ad 12)) (fun w h => (List.mem_cons_of_mem _ (List.mem_append_right _ h))) 0 rfl rfl 12 (by decide) (List.mem_cons_of_mem _ (List.mem_append_left _ (List.mem_append_left _ (List.mem_of_getElem? (l := wsX7_knows_r1) (i := 4) rfl)))) rfl rfl dX7_knows_135 ?_
            refine j_iload F dX7_knows_138 3 rfl ?_
            refine j_iald F 9 (n := 272) (f := cT.2.2.2.2.2.2.1) rfl u7.2.2 (by omega) (by omega) (by decide) dX7_knows_140 ?_
            refine J.top (congrArg iI (show cT.2.2.2.2.2.2.1 u7.2.2 = ((((bhW G S M (posT.getD po [])).getD j v0).2.2.2 : Nat) : Int) from t4)) ?_
            refine j_iconst F dX7_knows_141 ?_
            refine j_iadd F dX7_knows_142 ?_
            refine j_goto F (tgt := 148) dX7_knows_143 (by decide) ?_
            refine j_istore F (lv' := [(6, .int (iI (((((bhW G S M (posT.getD po [])).getD j v0).2.2.2 : Nat) : Int) + 1))), (5, .int (iI (((kxF (bhW G S M (posT.getD po [])) (j + 1)) : Nat) : Int))), (4, .int (iI (((kwF (bhW G S M (posT.getD po [])) (j + 1)) : Nat) : Int))), (2, .long (lN (B ||| 2 ^ ((bhW G S M (posT.getD po [])).getD j v0).1))), (8, .int (iI ((u7.2.2 : Nat) : Int))), (7, .int (iI (j : Int))), (0, .ref (ad 0)), (1, .int (iI (po : Int)))]) dX7_knows_148 (by decide) rfl ?_
            rw [show min (kfF (bhW G S M (posT.getD po [])) j) (((bhW G S M (posT.getD po [])).getD j v0).2.2.2 + 1) = ((bhW G S M (posT.getD po [])).getD j v0).2.2.2 + 1 by omega] at kf9
            refine J.lvEq (lv2 := [(6, .int (iI (((kfF (bhW G S M (posT.getD po [])) (j + 1)) : Nat) : Int))), (5, .int (iI (((kxF (bhW G S M (posT.getD po [])) (j + 1)) : Nat) : Int))), (4, .int (iI (((kwF (bhW G S M (posT.getD po [])) (j + 1)) : Nat) : Int))), (2, .long (lN (B ||| 2 ^ ((bhW G S M (posT.getD po [])).getD j v0).1))), (8, .int (iI ((u7.2.2 : Nat) : Int))), (7, .int (iI (j : Int))), (0, .ref (ad 0)), (1, .int (iI (po : Int)))]) (by rw [kf9]; rfl) ?_
            refine j_iinc F (lv' := [(7, .int (iI ((j : Int) + 1))), (6, .int (iI (((kfF (bhW G S M (posT.getD po [])) (j + 1)) : Nat) : Int))), (5, .int (iI (((kxF (bhW G S M (posT.getD po [])) (j + 1)) : Nat) : Int))), (4, .int (iI (((kwF (bhW G S M (posT.getD po [])) (j + 1)) : Nat) : Int))), (2, .long (lN (B ||| 2 ^ ((bhW G S M (posT.getD po [])).getD j v0).1))), (8, .int (iI ((u7.2.2 : Nat) : Int))), (0, .ref (ad 0)), (1, .int (iI (po : Int)))]) dX7_knows_150 5 rfl (by decide) rfl ?_
            refine j_goto F (tgt := 43) dX7_knows_153 (by decide) ?_
            refine J.loc [0, 1, 2, 3, 4, 6, 7] rfl ?_
            exact ih43 ((j + 1), (B ||| 2 ^ ((bhW G S M (posT.getD po [])).getD j v0).1), u7.1, u7.2.1) (by show bagI (bhW G S M (posT.getD po [])) (j + 1) (B ||| 2 ^ ((bhW G S M (posT.getD po [])).getD j v0).1) ((wnL ((bhW G S M (posT.getD po [])).take (j + 1)) : Nat) : Int); exact bag_w hI hjv (by omega)) (by show (bhW G S M (posT.getD po [])).length - (j + 1) < (bhW G S M (posT.getD po [])).length - j; omega)
        · refine j_aload_n F dX7_knows_104 rfl 6 rfl ?_
          refine j_getf F (ref := "CairnGameModel") (C := RX7) (T := TX7) (N := 27) (ci := 7) (index := 31) (v := .ref (ad 11)) (fun w h => (List.mem_cons_of_mem _ (List.mem_append_right _ h))) 0 rfl rfl 11 (by decide) (List.mem_cons_of_mem _ (List.mem_append_left _ (List.mem_append_left _ (List.mem_of_getElem? (l := wsX7_knows_r1) (i := 3) rfl)))) rfl rfl dX7_knows_105 ?_
          refine j_iload F dX7_knows_108 2 rfl ?_
          refine j_iald F 8 (n := 272) (f := cT.2.2.2.2.2.1) rfl u7.2.2 (by omega) (by omega) (by decide) dX7_knows_110 ?_
          refine J.top (congrArg iI (show cT.2.2.2.2.2.1 u7.2.2 = ((((bhW G S M (posT.getD po [])).getD j v0).2.2.1 : Nat) : Int) from t3)) ?_
          refine j_iconst F dX7_knows_111 ?_
          refine j_iadd F dX7_knows_112 ?_
          refine j_goto F (tgt := 118) dX7_knows_113 (by decide) ?_
          refine j_istore F (lv' := [(5, .int (iI (((((bhW G S M (posT.getD po [])).getD j v0).2.2.1 : Nat) : Int) + 1))), (4, .int (iI (((kwF (bhW G S M (posT.getD po [])) (j + 1)) : Nat) : Int))), (2, .long (lN (B ||| 2 ^ ((bhW G S M (posT.getD po [])).getD j v0).1))), (8, .int (iI ((u7.2.2 : Nat) : Int))), (7, .int (iI (j : Int))), (6, .int (iI (((kfF (bhW G S M (posT.getD po [])) j) : Nat) : Int))), (0, .ref (ad 0)), (1, .int (iI (po : Int)))]) dX7_knows_118 (by decide) rfl ?_
          rw [show max (kxF (bhW G S M (posT.getD po [])) j) (((bhW G S M (posT.getD po [])).getD j v0).2.2.1 + 1) = ((bhW G S M (posT.getD po [])).getD j v0).2.2.1 + 1 by omega] at kx9
          refine J.lvEq (lv2 := [(5, .int (iI (((kxF (bhW G S M (posT.getD po [])) (j + 1)) : Nat) : Int))), (4, .int (iI (((kwF (bhW G S M (posT.getD po [])) (j + 1)) : Nat) : Int))), (2, .long (lN (B ||| 2 ^ ((bhW G S M (posT.getD po [])).getD j v0).1))), (8, .int (iI ((u7.2.2 : Nat) : Int))), (7, .int (iI (j : Int))), (6, .int (iI (((kfF (bhW G S M (posT.getD po [])) j) : Nat) : Int))), (0, .ref (ad 0)), (1, .int (iI (po : Int)))]) (by rw [kx9]; rfl) ?_
          refine j_aload_n F dX7_knows_120 rfl 6 rfl ?_
          refine j_getf F (ref := "CairnGameModel") (C := RX7) (T := TX7) (N := 27) (ci := 7) (index := 34) (v := .ref (ad 12)) (fun w h => (List.mem_cons_of_mem _ (List.mem_append_right _ h))) 0 rfl rfl 12 (by decide) (List.mem_cons_of_mem _ (List.mem_append_left _ (List.mem_append_left _ (List.mem_of_getElem? (l := wsX7_knows_r1) (i := 4) rfl)))) rfl rfl dX7_knows_121 ?_
          refine j_iload F dX7_knows_124 3 rfl ?_
          refine j_iald F 9 (n := 272) (f := cT.2.2.2.2.2.2.1) rfl u7.2.2 (by omega) (by omega) (by decide) dX7_knows_126 ?_
          refine J.top (congrArg iI (show cT.2.2.2.2.2.2.1 u7.2.2 = ((((bhW G S M (posT.getD po [])).getD j v0).2.2.2 : Nat) : Int) from t4)) ?_
          refine j_iconst F dX7_knows_127 ?_
          refine j_iadd F dX7_knows_128 ?_
          refine j_iload F dX7_knows_129 5 rfl ?_
          refine j_icmp_ge F (tgt := 146) dX7_knows_131 (by decide) ⟨(by unfold rg; omega), (by unfold rg; omega)⟩ (fun c131 => ?_) (fun c131 => ?_)
          · refine j_iload F dX7_knows_146 5 rfl ?_
            refine j_istore F (lv' := [(6, .int (iI (((kfF (bhW G S M (posT.getD po [])) j) : Nat) : Int))), (5, .int (iI (((kxF (bhW G S M (posT.getD po [])) (j + 1)) : Nat) : Int))), (4, .int (iI (((kwF (bhW G S M (posT.getD po [])) (j + 1)) : Nat) : Int))), (2, .long (lN (B ||| 2 ^ ((bhW G S M (posT.getD po [])).getD j v0).1))), (8, .int (iI ((u7.2.2 : Nat) : Int))), (7, .int (iI (j : Int))), (0, .ref (ad 0)), (1, .int (iI (po : Int)))]) dX7_knows_148 (by decide) rfl ?_
            rw [show min (kfF (bhW G S M (posT.getD po [])) j) (((bhW G S M (posT.getD po [])).getD j v0).2.2.2 + 1) = kfF (bhW G S M (posT.getD po [])) j by omega] at kf9
            refine J.lvEq (lv2 := [(6, .int (iI (((kfF (bhW G S M (posT.getD po [])) (j + 1)) : Nat) : Int))), (5, .int (iI (((kxF (bhW G S M (posT.getD po [])) (j + 1)) : Nat) : Int))), (4, .int (iI (((kwF (bhW G S M (posT.getD po [])) (j + 1)) : Nat) : Int))), (2, .long (lN (B ||| 2 ^ ((bhW G S M (posT.getD po [])).getD j v0).1))), (8, .int (iI ((u7.2.2 : Nat) : Int))), (7, .int (iI (j : Int))), (0, .ref (ad 0)), (1, .int (iI (po : Int)))]) (by rw [kf9]) ?_
            refine j_iinc F (lv' := [(7, .int (iI ((j : Int) + 1))), (6, .int (iI (((kfF (bhW G S M (posT.getD po [])) (j + 1)) : Nat) : Int))), (5, .int (iI (((kxF (bhW G S M (posT.getD po [])) (j + 1)) : Nat) : Int))), (4, .int (iI (((kwF (bhW G S M (posT.getD po [])) (j + 1)) : Nat) : Int))), (2, .long (lN (B ||| 2 ^ ((bhW G S M (posT.getD po [])).getD j v0).1))), (8, .int (iI ((u7.2.2 : Nat) : Int))), (0, .ref (ad 0)), (1, .int (iI (po : Int)))]) dX7_knows_150 5 rfl (by decide) rfl ?_
            refine j_goto F (tgt := 43) dX7_knows_153 (by decide) ?_
            refine J.loc [0, 1, 2, 3, 4, 6, 7] rfl ?_
            exact ih43 ((j + 1), (B ||| 2 ^ ((bhW G S M (posT.getD po [])).getD j v0).1), u7.1, u7.2.1) (by show bagI (bhW G S M (posT.getD po [])) (j + 1) (B ||| 2 ^ ((bhW G S M (posT.getD po [])).getD j v0).1) ((wnL ((bhW G S M (posT.getD po [])).take (j + 1)) : Nat) : Int); exact bag_w hI hjv (by omega)) (by show (bhW G S M (posT.getD po [])).length - (j + 1) < (bhW G S M (posT.getD po [])).length - j; omega)
          · refine j_aload_n F dX7_knows_134 rfl 6 rfl ?_
            refine j_getf F (ref := "CairnGameModel") (C := RX7) (T := TX7) (N := 27) (ci := 7) (index := 34) (v := .ref (ad 12)) (fun w h => (List.mem_cons_of_mem _ (List.mem_append_right _ h))) 0 rfl rfl 12 (by decide) (List.mem_cons_of_mem _ (List.mem_append_left _ (List.mem_append_left _ (List.mem_of_getElem? (l := wsX7_knows_r1) (i := 4) rfl)))) rfl rfl dX7_knows_135 ?_
            refine j_iload F dX7_knows_138 3 rfl ?_
            refine j_iald F 9 (n := 272) (f := cT.2.2.2.2.2.2.1) rfl u7.2.2 (by omega) (by omega) (by decide) dX7_knows_140 ?_
            refine J.top (congrArg iI (show cT.2.2.2.2.2.2.1 u7.2.2 = ((((bhW G S M (posT.getD po [])).getD j v0).2.2.2 : Nat) : Int) from t4)) ?_
            refine j_iconst F dX7_knows_141 ?_
            refine j_iadd F dX7_knows_142 ?_
            refine j_goto F (tgt := 148) dX7_knows_143 (by decide) ?_
            refine j_istore F (lv' := [(6, .int (iI (((((bhW G S M (posT.getD po [])).getD j v0).2.2.2 : Nat) : Int) + 1))), (5, .int (iI (((kxF (bhW G S M (posT.getD po [])) (j + 1)) : Nat) : Int))), (4, .int (iI (((kwF (bhW G S M (posT.getD po [])) (j + 1)) : Nat) : Int))), (2, .long (lN (B ||| 2 ^ ((bhW G S M (posT.getD po [])).getD j v0).1))), (8, .int (iI ((u7.2.2 : Nat) : Int))), (7, .int (iI (j : Int))), (0, .ref (ad 0)), (1, .int (iI (po : Int)))]) dX7_knows_148 (by decide) rfl ?_
            rw [show min (kfF (bhW G S M (posT.getD po [])) j) (((bhW G S M (posT.getD po [])).getD j v0).2.2.2 + 1) = ((bhW G S M (posT.getD po [])).getD j v0).2.2.2 + 1 by omega] at kf9
            refine J.lvEq (lv2 := [(6, .int (iI (((kfF (bhW G S M (posT.getD po [])) (j + 1)) : Nat) : Int))), (5, .int (iI (((kxF (bhW G S M (posT.getD po [])) (j + 1)) : Nat) : Int))), (4, .int (iI (((kwF (bhW G S M (posT.getD po [])) (j + 1)) : Nat) : Int))), (2, .long (lN (B ||| 2 ^ ((bhW G S M (posT.getD po [])).getD j v0).1))), (8, .int (iI ((u7.2.2 : Nat) : Int))), (7, .int (iI (j : Int))), (0, .ref (ad 0)), (1, .int (iI (po : Int)))]) (by rw [kf9]; rfl) ?_
            refine j_iinc F (lv' := [(7, .int (iI ((j : Int) + 1))), (6, .int (iI (((kfF (bhW G S M (posT.getD po [])) (j + 1)) : Nat) : Int))), (5, .int (iI (((kxF (bhW G S M (posT.getD po [])) (j + 1)) : Nat) : Int))), (4, .int (iI (((kwF (bhW G S M (posT.getD po [])) (j + 1)) : Nat) : Int))), (2, .long (lN (B ||| 2 ^ ((bhW G S M (posT.getD po [])).getD j v0).1))), (8, .int (iI ((u7.2.2 : Nat) : Int))), (0, .ref (ad 0)), (1, .int (iI (po : Int)))]) dX7_knows_150 5 rfl (by decide) rfl ?_
            refine j_goto F (tgt := 43) dX7_knows_153 (by decide) ?_
            refine J.loc [0, 1, 2, 3, 4, 6, 7] rfl ?_
            exact ih43 ((j + 1), (B ||| 2 ^ ((bhW G S M (posT.getD po [])).getD j v0).1), u7.1, u7.2.1) (by show bagI (bhW G S M (posT.getD po [])) (j + 1) (B ||| 2 ^ ((bhW G S M (posT.getD po [])).getD j v0).1) ((wnL ((bhW G S M (posT.getD po [])).take (j + 1)) : Nat) : Int); exact bag_w hI hjv (by omega)) (by show (bhW G S M (posT.getD po [])).length - (j + 1) < (bhW G S M (posT.getD po [])).length - j; omega)
      · refine j_iconst F dX7_knows_82 ?_
        refine j_goto F (tgt := 88) dX7_knows_83 (by decide) ?_
        refine j_istore F (lv' := [(4, .int (iI 1)), (2, .long (lN (B ||| 2 ^ ((bhW G S M (posT.getD po [])).getD j v0).1))), (8, .int (iI ((u7.2.2 : Nat) : Int))), (7, .int (iI (j : Int))), (6, .int (iI (((kfF (bhW G S M (posT.getD po [])) j) : Nat) : Int))), (5, .int (iI (((kxF (bhW G S M (posT.getD po [])) j) : Nat) : Int))), (0, .ref (ad 0)), (1, .int (iI (po : Int)))]) dX7_knows_88 (by decide) rfl ?_
        rw [if_pos (by omega)] at kw9
        refine J.lvEq (lv2 := [(4, .int (iI (((kwF (bhW G S M (posT.getD po [])) (j + 1)) : Nat) : Int))), (2, .long (lN (B ||| 2 ^ ((bhW G S M (posT.getD po [])).getD j v0).1))), (8, .int (iI ((u7.2.2 : Nat) : Int))), (7, .int (iI (j : Int))), (6, .int (iI (((kfF (bhW G S M (posT.getD po [])) j) : Nat) : Int))), (5, .int (iI (((kxF (bhW G S M (posT.getD po [])) j) : Nat) : Int))), (0, .ref (ad 0)), (1, .int (iI (po : Int)))]) (by rw [kw9]; rfl) ?_
        refine j_aload_n F dX7_knows_90 rfl 6 rfl ?_
        refine j_getf F (ref := "CairnGameModel") (C := RX7) (T := TX7) (N := 27) (ci := 7) (index := 31) (v := .ref (ad 11)) (fun w h => (List.mem_cons_of_mem _ (List.mem_append_right _ h))) 0 rfl rfl 11 (by decide) (List.mem_cons_of_mem _ (List.mem_append_left _ (List.mem_append_left _ (List.mem_of_getElem? (l := wsX7_knows_r1) (i := 3) rfl)))) rfl rfl dX7_knows_91 ?_
        refine j_iload F dX7_knows_94 2 rfl ?_
        refine j_iald F 8 (n := 272) (f := cT.2.2.2.2.2.1) rfl u7.2.2 (by omega) (by omega) (by decide) dX7_knows_96 ?_
        refine J.top (congrArg iI (show cT.2.2.2.2.2.1 u7.2.2 = ((((bhW G S M (posT.getD po [])).getD j v0).2.2.1 : Nat) : Int) from t3)) ?_
        refine j_iconst F dX7_knows_97 ?_
        refine j_iadd F dX7_knows_98 ?_
        refine j_iload F dX7_knows_99 5 rfl ?_
        refine j_icmp_le F (tgt := 116) dX7_knows_101 (by decide) ⟨(by unfold rg; omega), (by unfold rg; omega)⟩ (fun c101 => ?_) (fun c101 => ?_)
        · refine j_iload F dX7_knows_116 5 rfl ?_
          refine j_istore F (lv' := [(5, .int (iI (((kxF (bhW G S M (posT.getD po [])) j) : Nat) : Int))), (4, .int (iI (((kwF (bhW G S M (posT.getD po [])) (j + 1)) : Nat) : Int))), (2, .long (lN (B ||| 2 ^ ((bhW G S M (posT.getD po [])).getD j v0).1))), (8, .int (iI ((u7.2.2 : Nat) : Int))), (7, .int (iI (j : Int))), (6, .int (iI (((kfF (bhW G S M (posT.getD po [])) j) : Nat) : Int))), (0, .ref (ad 0)), (1, .int (iI (po : Int)))]) dX7_knows_118 (by decide) rfl ?_
          rw [show max (kxF (bhW G S M (posT.getD po [])) j) (((bhW G S M (posT.getD po [])).getD j v0).2.2.1 + 1) = kxF (bhW G S M (posT.getD po [])) j by omega] at kx9
          refine J.lvEq (lv2 := [(5, .int (iI (((kxF (bhW G S M (posT.getD po [])) (j + 1)) : Nat) : Int))), (4, .int (iI (((kwF (bhW G S M (posT.getD po [])) (j + 1)) : Nat) : Int))), (2, .long (lN (B ||| 2 ^ ((bhW G S M (posT.getD po [])).getD j v0).1))), (8, .int (iI ((u7.2.2 : Nat) : Int))), (7, .int (iI (j : Int))), (6, .int (iI (((kfF (bhW G S M (posT.getD po [])) j) : Nat) : Int))), (0, .ref (ad 0)), (1, .int (iI (po : Int)))]) (by rw [kx9]) ?_
          refine j_aload_n F dX7_knows_120 rfl 6 rfl ?_
          refine j_getf F (ref := "CairnGameModel") (C := RX7) (T := TX7) (N := 27) (ci := 7) (index := 34) (v := .ref (ad 12)) (fun w h => (List.mem_cons_of_mem _ (List.mem_append_right _ h))) 0 rfl rfl 12 (by decide) (List.mem_cons_of_mem _ (List.mem_append_left _ (List.mem_append_left _ (List.mem_of_getElem? (l := wsX7_knows_r1) (i := 4) rfl)))) rfl rfl dX7_knows_121 ?_
          refine j_iload F dX7_knows_124 3 rfl ?_
          refine j_iald F 9 (n := 272) (f := cT.2.2.2.2.2.2.1) rfl u7.2.2 (by omega) (by omega) (by decide) dX7_knows_126 ?_
          refine J.top (congrArg iI (show cT.2.2.2.2.2.2.1 u7.2.2 = ((((bhW G S M (posT.getD po [])).getD j v0).2.2.2 : Nat) : Int) from t4)) ?_
          refine j_iconst F dX7_knows_127 ?_
          refine j_iadd F dX7_knows_128 ?_
          refine j_iload F dX7_knows_129 5 rfl ?_
          refine j_icmp_ge F (tgt := 146) dX7_knows_131 (by decide) ⟨(by unfold rg; omega), (by unfold rg; omega)⟩ (fun c131 => ?_) (fun c131 => ?_)
          · refine j_iload F dX7_knows_146 5 rfl ?_
            refine j_istore F (lv' := [(6, .int (iI (((kfF (bhW G S M (posT.getD po [])) j) : Nat) : Int))), (5, .int (iI (((kxF (bhW G S M (posT.getD po [])) (j + 1)) : Nat) : Int))), (4, .int (iI (((kwF (bhW G S M (posT.getD po [])) (j + 1)) : Nat) : Int))), (2, .long (lN (B ||| 2 ^ ((bhW G S M (posT.getD po [])).getD j v0).1))), (8, .int (iI ((u7.2.2 : Nat) : Int))), (7, .int (iI (j : Int))), (0, .ref (ad 0)), (1, .int (iI (po : Int)))]) dX7_knows_148 (by decide) rfl ?_
            rw [show min (kfF (bhW G S M (posT.getD po [])) j) (((bhW G S M (posT.getD po [])).getD j v0).2.2.2 + 1) = kfF (bhW G S M (posT.getD po [])) j by omega] at kf9
            refine J.lvEq (lv2 := [(6, .int (iI (((kfF (bhW G S M (posT.getD po [])) (j + 1)) : Nat) : Int))), (5, .int (iI (((kxF (bhW G S M (posT.getD po [])) (j + 1)) : Nat) : Int))), (4, .int (iI (((kwF (bhW G S M (posT.getD po [])) (j + 1)) : Nat) : Int))), (2, .long (lN (B ||| 2 ^ ((bhW G S M (posT.getD po [])).getD j v0).1))), (8, .int (iI ((u7.2.2 : Nat) : Int))), (7, .int (iI (j : Int))), (0, .ref (ad 0)), (1, .int (iI (po : Int)))]) (by rw [kf9]) ?_
            refine j_iinc F (lv' := [(7, .int (iI ((j : Int) + 1))), (6, .int (iI (((kfF (bhW G S M (posT.getD po [])) (j + 1)) : Nat) : Int))), (5, .int (iI (((kxF (bhW G S M (posT.getD po [])) (j + 1)) : Nat) : Int))), (4, .int (iI (((kwF (bhW G S M (posT.getD po [])) (j + 1)) : Nat) : Int))), (2, .long (lN (B ||| 2 ^ ((bhW G S M (posT.getD po [])).getD j v0).1))), (8, .int (iI ((u7.2.2 : Nat) : Int))), (0, .ref (ad 0)), (1, .int (iI (po : Int)))]) dX7_knows_150 5 rfl (by decide) rfl ?_
            refine j_goto F (tgt := 43) dX7_knows_153 (by decide) ?_
            refine J.loc [0, 1, 2, 3, 4, 6, 7] rfl ?_
            exact ih43 ((j + 1), (B ||| 2 ^ ((bhW G S M (posT.getD po [])).getD j v0).1), u7.1, u7.2.1) (by show bagI (bhW G S M (posT.getD po [])) (j + 1) (B ||| 2 ^ ((bhW G S M (posT.getD po [])).getD j v0).1) ((wnL ((bhW G S M (posT.getD po [])).take (j + 1)) : Nat) : Int); exact bag_w hI hjv (by omega)) (by show (bhW G S M (posT.getD po [])).length - (j + 1) < (bhW G S M (posT.getD po [])).length - j; omega)
          · refine j_aload_n F dX7_knows_134 rfl 6 rfl ?_
            refine j_getf F (ref := "CairnGameModel") (C := RX7) (T := TX7) (N := 27) (ci := 7) (index := 34) (v := .ref (ad 12)) (fun w h => (List.mem_cons_of_mem _ (List.mem_append_right _ h))) 0 rfl rfl 12 (by decide) (List.mem_cons_of_mem _ (List.mem_append_left _ (List.mem_append_left _ (List.mem_of_getElem? (l := wsX7_knows_r1) (i := 4) rfl)))) rfl rfl dX7_knows_135 ?_
            refine j_iload F dX7_knows_138 3 rfl ?_
            refine j_iald F 9 (n := 272) (f := cT.2.2.2.2.2.2.1) rfl u7.2.2 (by omega) (by omega) (by decide) dX7_knows_140 ?_
            refine J.top (congrArg iI (show cT.2.2.2.2.2.2.1 u7.2.2 = ((((bhW G S M (posT.getD po [])).getD j v0).2.2.2 : Nat) : Int) from t4)) ?_
            refine j_iconst F dX7_knows_141 ?_
            refine j_iadd F dX7_knows_142 ?_
            refine j_goto F (tgt := 148) dX7_knows_143 (by decide) ?_
            refine j_istore F (lv' := [(6, .int (iI (((((bhW G S M (posT.getD po [])).getD j v0).2.2.2 : Nat) : Int) + 1))), (5, .int (iI (((kxF (bhW G S M (posT.getD po [])) (j + 1)) : Nat) : Int))), (4, .int (iI (((kwF (bhW G S M (posT.getD po [])) (j + 1)) : Nat) : Int))), (2, .long (lN (B ||| 2 ^ ((bhW G S M (posT.getD po [])).getD j v0).1))), (8, .int (iI ((u7.2.2 : Nat) : Int))), (7, .int (iI (j : Int))), (0, .ref (ad 0)), (1, .int (iI (po : Int)))]) dX7_knows_148 (by decide) rfl ?_
            rw [show min (kfF (bhW G S M (posT.getD po [])) j) (((bhW G S M (posT.getD po [])).getD j v0).2.2.2 + 1) = ((bhW G S M (posT.getD po [])).getD j v0).2.2.2 + 1 by omega] at kf9
            refine J.lvEq (lv2 := [(6, .int (iI (((kfF (bhW G S M (posT.getD po [])) (j + 1)) : Nat) : Int))), (5, .int (iI (((kxF (bhW G S M (posT.getD po [])) (j + 1)) : Nat) : Int))), (4, .int (iI (((kwF (bhW G S M (posT.getD po [])) (j + 1)) : Nat) : Int))), (2, .long (lN (B ||| 2 ^ ((bhW G S M (posT.getD po [])).getD j v0).1))), (8, .int (iI ((u7.2.2 : Nat) : Int))), (7, .int (iI (j : Int))), (0, .ref (ad 0)), (1, .int (iI (po : Int)))]) (by rw [kf9]; rfl) ?_
            refine j_iinc F (lv' := [(7, .int (iI ((j : Int) + 1))), (6, .int (iI (((kfF (bhW G S M (posT.getD po [])) (j + 1)) : Nat) : Int))), (5, .int (iI (((kxF (bhW G S M (posT.getD po [])) (j + 1)) : Nat) : Int))), (4, .int (iI (((kwF (bhW G S M (posT.getD po [])) (j + 1)) : Nat) : Int))), (2, .long (lN (B ||| 2 ^ ((bhW G S M (posT.getD po [])).getD j v0).1))), (8, .int (iI ((u7.2.2 : Nat) : Int))), (0, .ref (ad 0)), (1, .int (iI (po : Int)))]) dX7_knows_150 5 rfl (by decide) rfl ?_
            refine j_goto F (tgt := 43) dX7_knows_153 (by decide) ?_
            refine J.loc [0, 1, 2, 3, 4, 6, 7] rfl ?_
            exact ih43 ((j + 1), (B ||| 2 ^ ((bhW G S M (posT.getD po [])).getD j v0).1), u7.1, u7.2.1) (by show bagI (bhW G S M (posT.getD po [])) (j + 1) (B ||| 2 ^ ((bhW G S M (posT.getD po [])).getD j v0).1) ((wnL ((bhW G S M (posT.getD po [])).take (j + 1)) : Nat) : Int); exact bag_w hI hjv (by omega)) (by show (bhW G S M (posT.getD po [])).length - (j + 1) < (bhW G S M (posT.getD po [])).length - j; omega)
        · refine j_aload_n F dX7_knows_104 rfl 6 rfl ?_
          refine j_getf F (ref := "CairnGameModel") (C := RX7) (T := TX7) (N := 27) (ci := 7) (index := 31) (v := .ref (ad 11)) (fun w h => (List.mem_cons_of_mem _ (List.mem_append_right _ h))) 0 rfl rfl 11 (by decide) (List.mem_cons_of_mem _ (List.mem_append_left _ (List.mem_append_left _ (List.mem_of_getElem? (l := wsX7_knows_r1) (i := 3) rfl)))) rfl rfl dX7_knows_105 ?_
          refine j_iload F dX7_knows_108 2 rfl ?_
          refine j_iald F 8 (n := 272) (f := cT.2.2.2.2.2.1) rfl u7.2.2 (by omega) (by omega) (by decide) dX7_knows_110 ?_
          refine J.top (congrArg iI (show cT.2.2.2.2.2.1 u7.2.2 = ((((bhW G S M (posT.getD po [])).getD j v0).2.2.1 : Nat) : Int) from t3)) ?_
          refine j_iconst F dX7_knows_111 ?_
          refine j_iadd F dX7_knows_112 ?_
          refine j_goto F (tgt := 118) dX7_knows_113 (by decide) ?_
          refine j_istore F (lv' := [(5, .int (iI (((((bhW G S M (posT.getD po [])).getD j v0).2.2.1 : Nat) : Int) + 1))), (4, .int (iI (((kwF (bhW G S M (posT.getD po [])) (j + 1)) : Nat) : Int))), (2, .long (lN (B ||| 2 ^ ((bhW G S M (posT.getD po [])).getD j v0).1))), (8, .int (iI ((u7.2.2 : Nat) : Int))), (7, .int (iI (j : Int))), (6, .int (iI (((kfF (bhW G S M (posT.getD po [])) j) : Nat) : Int))), (0, .ref (ad 0)), (1, .int (iI (po : Int)))]) dX7_knows_118 (by decide) rfl ?_
          rw [show max (kxF (bhW G S M (posT.getD po [])) j) (((bhW G S M (posT.getD po [])).getD j v0).2.2.1 + 1) = ((bhW G S M (posT.getD po [])).getD j v0).2.2.1 + 1 by omega] at kx9
          refine J.lvEq (lv2 := [(5, .int (iI (((kxF (bhW G S M (posT.getD po [])) (j + 1)) : Nat) : Int))), (4, .int (iI (((kwF (bhW G S M (posT.getD po [])) (j + 1)) : Nat) : Int))), (2, .long (lN (B ||| 2 ^ ((bhW G S M (posT.getD po [])).getD j v0).1))), (8, .int (iI ((u7.2.2 : Nat) : Int))), (7, .int (iI (j : Int))), (6, .int (iI (((kfF (bhW G S M (posT.getD po [])) j) : Nat) : Int))), (0, .ref (ad 0)), (1, .int (iI (po : Int)))]) (by rw [kx9]; rfl) ?_
          refine j_aload_n F dX7_knows_120 rfl 6 rfl ?_
          refine j_getf F (ref := "CairnGameModel") (C := RX7) (T := TX7) (N := 27) (ci := 7) (index := 34) (v := .ref (ad 12)) (fun w h => (List.mem_cons_of_mem _ (List.mem_append_right _ h))) 0 rfl rfl 12 (by decide) (List.mem_cons_of_mem _ (List.mem_append_left _ (List.mem_append_left _ (List.mem_of_getElem? (l := wsX7_knows_r1) (i := 4) rfl)))) rfl rfl dX7_knows_121 ?_
          refine j_iload F dX7_knows_124 3 rfl ?_
          refine j_iald F 9 (n := 272) (f := cT.2.2.2.2.2.2.1) rfl u7.2.2 (by omega) (by omega) (by decide) dX7_knows_126 ?_
          refine J.top (congrArg iI (show cT.2.2.2.2.2.2.1 u7.2.2 = ((((bhW G S M (posT.getD po [])).getD j v0).2.2.2 : Nat) : Int) from t4)) ?_
          refine j_iconst F dX7_knows_127 ?_
          refine j_iadd F dX7_knows_128 ?_
          refine j_iload F dX7_knows_129 5 rfl ?_
          refine j_icmp_ge F (tgt := 146) dX7_knows_131 (by decide) ⟨(by unfold rg; omega), (by unfold rg; omega)⟩ (fun c131 => ?_) (fun c131 => ?_)
          · refine j_iload F dX7_knows_146 5 rfl ?_
            refine j_istore F (lv' := [(6, .int (iI (((kfF (bhW G S M (posT.getD po [])) j) : Nat) : Int))), (5, .int (iI (((kxF (bhW G S M (posT.getD po [])) (j + 1)) : Nat) : Int))), (4, .int (iI (((kwF (bhW G S M (posT.getD po [])) (j + 1)) : Nat) : Int))), (2, .long (lN (B ||| 2 ^ ((bhW G S M (posT.getD po [])).getD j v0).1))), (8, .int (iI ((u7.2.2 : Nat) : Int))), (7, .int (iI (j : Int))), (0, .ref (ad 0)), (1, .int (iI (po : Int)))]) dX7_knows_148 (by decide) rfl ?_
            rw [show min (kfF (bhW G S M (posT.getD po [])) j) (((bhW G S M (posT.getD po [])).getD j v0).2.2.2 + 1) = kfF (bhW G S M (posT.getD po [])) j by omega] at kf9
            refine J.lvEq (lv2 := [(6, .int (iI (((kfF (bhW G S M (posT.getD po [])) (j + 1)) : Nat) : Int))), (5, .int (iI (((kxF (bhW G S M (posT.getD po [])) (j + 1)) : Nat) : Int))), (4, .int (iI (((kwF (bhW G S M (posT.getD po [])) (j + 1)) : Nat) : Int))), (2, .long (lN (B ||| 2 ^ ((bhW G S M (posT.getD po [])).getD j v0).1))), (8, .int (iI ((u7.2.2 : Nat) : Int))), (7, .int (iI (j : Int))), (0, .ref (ad 0)), (1, .int (iI (po : Int)))]) (by rw [kf9]) ?_
            refine j_iinc F (lv' := [(7, .int (iI ((j : Int) + 1))), (6, .int (iI (((kfF (bhW G S M (posT.getD po [])) (j + 1)) : Nat) : Int))), (5, .int (iI (((kxF (bhW G S M (posT.getD po [])) (j + 1)) : Nat) : Int))), (4, .int (iI (((kwF (bhW G S M (posT.getD po [])) (j + 1)) : Nat) : Int))), (2, .long (lN (B ||| 2 ^ ((bhW G S M (posT.getD po [])).getD j v0).1))), (8, .int (iI ((u7.2.2 : Nat) : Int))), (0, .ref (ad 0)), (1, .int (iI (po : Int)))]) dX7_knows_150 5 rfl (by decide) rfl ?_
            refine j_goto F (tgt := 43) dX7_knows_153 (by decide) ?_
            refine J.loc [0, 1, 2, 3, 4, 6, 7] rfl ?_
            exact ih43 ((j + 1), (B ||| 2 ^ ((bhW G S M (posT.getD po [])).getD j v0).1), u7.1, u7.2.1) (by show bagI (bhW G S M (posT.getD po [])) (j + 1) (B ||| 2 ^ ((bhW G S M (posT.getD po [])).getD j v0).1) ((wnL ((bhW G S M (posT.getD po [])).take (j + 1)) : Nat) : Int); exact bag_w hI hjv (by omega)) (by show (bhW G S M (posT.getD po [])).length - (j + 1) < (bhW G S M (posT.getD po [])).length - j; omega)
          · refine j_aload_n F dX7_knows_134 rfl 6 rfl ?_
            refine j_getf F (ref := "CairnGameModel") (C := RX7) (T := TX7) (N := 27) (ci := 7) (index := 34) (v := .ref (ad 12)) (fun w h => (List.mem_cons_of_mem _ (List.mem_append_right _ h))) 0 rfl rfl 12 (by decide) (List.mem_cons_of_mem _ (List.mem_append_left _ (List.mem_append_left _ (List.mem_of_getElem? (l := wsX7_knows_r1) (i := 4) rfl)))) rfl rfl dX7_knows_135 ?_
            refine j_iload F dX7_knows_138 3 rfl ?_
            refine j_iald F 9 (n := 272) (f := cT.2.2.2.2.2.2.1) rfl u7.2.2 (by omega) (by omega) (by decide) dX7_knows_140 ?_
            refine J.top (congrArg iI (show cT.2.2.2.2.2.2.1 u7.2.2 = ((((bhW G S M (posT.getD po [])).getD j v0).2.2.2 : Nat) : Int) from t4)) ?_
            refine j_iconst F dX7_knows_141 ?_
            refine j_iadd F dX7_knows_142 ?_
            refine j_goto F (tgt := 148) dX7_knows_143 (by decide) ?_
            refine j_istore F (lv' := [(6, .int (iI (((((bhW G S M (posT.getD po [])).getD j v0).2.2.2 : Nat) : Int) + 1))), (5, .int (iI (((kxF (bhW G S M (posT.getD po [])) (j + 1)) : Nat) : Int))), (4, .int (iI (((kwF (bhW G S M (posT.getD po [])) (j + 1)) : Nat) : Int))), (2, .long (lN (B ||| 2 ^ ((bhW G S M (posT.getD po [])).getD j v0).1))), (8, .int (iI ((u7.2.2 : Nat) : Int))), (7, .int (iI (j : Int))), (0, .ref (ad 0)), (1, .int (iI (po : Int)))]) dX7_knows_148 (by decide) rfl ?_
            rw [show min (kfF (bhW G S M (posT.getD po [])) j) (((bhW G S M (posT.getD po [])).getD j v0).2.2.2 + 1) = ((bhW G S M (posT.getD po [])).getD j v0).2.2.2 + 1 by omega] at kf9
            refine J.lvEq (lv2 := [(6, .int (iI (((kfF (bhW G S M (posT.getD po [])) (j + 1)) : Nat) : Int))), (5, .int (iI (((kxF (bhW G S M (posT.getD po [])) (j + 1)) : Nat) : Int))), (4, .int (iI (((kwF (bhW G S M (posT.getD po [])) (j + 1)) : Nat) : Int))), (2, .long (lN (B ||| 2 ^ ((bhW G S M (posT.getD po [])).getD j v0).1))), (8, .int (iI ((u7.2.2 : Nat) : Int))), (7, .int (iI (j : Int))), (0, .ref (ad 0)), (1, .int (iI (po : Int)))]) (by rw [kf9]; rfl) ?_
            refine j_iinc F (lv' := [(7, .int (iI ((j : Int) + 1))), (6, .int (iI (((kfF (bhW G S M (posT.getD po [])) (j + 1)) : Nat) : Int))), (5, .int (iI (((kxF (bhW G S M (posT.getD po [])) (j + 1)) : Nat) : Int))), (4, .int (iI (((kwF (bhW G S M (posT.getD po [])) (j + 1)) : Nat) : Int))), (2, .long (lN (B ||| 2 ^ ((bhW G S M (posT.getD po [])).getD j v0).1))), (8, .int (iI ((u7.2.2 : Nat) : Int))), (0, .ref (ad 0)), (1, .int (iI (po : Int)))]) dX7_knows_150 5 rfl (by decide) rfl ?_
            refine j_goto F (tgt := 43) dX7_knows_153 (by decide) ?_
            refine J.loc [0, 1, 2, 3, 4, 6, 7] rfl ?_
            exact ih43 ((j + 1), (B ||| 2 ^ ((bhW G S M (posT.getD po [])).getD j v0).1), u7.1, u7.2.1) (by show bagI (bhW G S M (posT.getD po [])) (j + 1) (B ||| 2 ^ ((bhW G S M (posT.getD po [])).getD j v0).1) ((wnL ((bhW G S M (posT.getD po [])).take (j + 1)) : Nat) : Int); exact bag_w hI hjv (by omega)) (by show (bhW G S M (posT.getD po [])).length - (j + 1) < (bhW G S M (posT.getD po [])).length - j; omega)
  · have en : (bhW G S M (posT.getD po [])).length = 0 := by rw [bhW_len]; omega
    have f1 : kwF (bhW G S M (posT.getD po [])) 0 = 1 := by unfold kwF; rw [if_pos en]
    have f2 : kfF (bhW G S M (posT.getD po [])) 0 = 0 := by unfold kfF; rw [if_pos en]
    refine j_iconst F dX7_knows_14 ?_
    refine j_goto F (tgt := 19) dX7_knows_15 (by decide) ?_
    refine j_istore F (lv' := [(4, .int (iI 1)), (2, .long 0), (0, .ref (ad 0)), (1, .int (iI (po : Int)))]) dX7_knows_19 (by decide) rfl ?_
    refine j_iconst F dX7_knows_21 ?_
    refine j_istore F (lv' := [(5, .int (iI 0)), (4, .int (iI 1)), (2, .long 0), (0, .ref (ad 0)), (1, .int (iI (po : Int)))]) dX7_knows_22 (by decide) rfl ?_
    refine j_aload_n F dX7_knows_24 rfl 3 rfl ?_
    refine j_getf F (ref := "CairnGameModel") (C := RX7) (T := TX7) (N := 27) (ci := 7) (index := 76) (v := .int (iI (((mvL G S M (posT.getD po [])).length : Nat) : Int))) (fun w h => (List.mem_cons_of_mem _ (List.mem_append_right _ h))) 0 rfl rfl 19 (by decide) (List.mem_cons_of_mem _ (List.mem_append_left _ (List.mem_append_left _ (List.mem_of_getElem? (l := wsX7_knows_r1) (i := 0) rfl)))) rfl rfl dX7_knows_25 ?_
    refine j_if_ne F (tgt := 35) dX7_knows_28 (by decide) (by unfold rg; omega) (fun h9 => by exfalso; omega) (fun c28 => ?_)
    refine j_iconst F dX7_knows_31 ?_
    refine j_goto F (tgt := 38) dX7_knows_32 (by decide) ?_
    refine j_istore F (lv' := [(6, .int (iI 0)), (5, .int (iI 0)), (4, .int (iI 1)), (2, .long 0), (0, .ref (ad 0)), (1, .int (iI (po : Int)))]) dX7_knows_38 (by decide) rfl ?_
    refine j_iconst F dX7_knows_40 ?_
    have f3 : kxF (bhW G S M (posT.getD po [])) 0 = 0 := by unfold kxF; rw [List.take_zero]; rfl
    refine J.lvEq (lv2 := [(6, .int (iI (((kfF (bhW G S M (posT.getD po [])) 0) : Nat) : Int))), (5, .int (iI (((kxF (bhW G S M (posT.getD po [])) 0) : Nat) : Int))), (4, .int (iI (((kwF (bhW G S M (posT.getD po [])) 0) : Nat) : Int))), (2, .long 0), (0, .ref (ad 0)), (1, .int (iI (po : Int)))]) (by rw [f1, f2, f3]; rfl) ?_
    refine j_istore F (lv' := [(7, .int (iI 0)), (6, .int (iI (((kfF (bhW G S M (posT.getD po [])) 0) : Nat) : Int))), (5, .int (iI (((kxF (bhW G S M (posT.getD po [])) 0) : Nat) : Int))), (4, .int (iI (((kwF (bhW G S M (posT.getD po [])) 0) : Nat) : Int))), (2, .long 0), (0, .ref (ad 0)), (1, .int (iI (po : Int)))]) dX7_knows_41 (by decide) rfl ?_
    refine J.loc [0, 1, 2, 3, 4, 5, 6] rfl ?_
    refine J_loop (σ := Nat × Nat × NF × Int) (fun x9 : Nat × Nat × NF × Int => match x9 with | (j, B, bf, nb) => bagI (bhW G S M (posT.getD po [])) j B ((wnL ((bhW G S M (posT.getD po [])).take j) : Nat) : Int)) (fun x9 : Nat × Nat × NF × Int => match x9 with | (j, B, bf, nb) => (bhW G S M (posT.getD po [])).length - j) (fun x9 : Nat × Nat × NF × Int => match x9 with | (j, B, bf, nb) => moC g ad th cC cT (u9.1, ((((posT.getD po [])).length : Nat) : Int), u9.2.1, u9.2.2.1, u9.2.2.2, (((mvL G S M (posT.getD po [])).length : Nat) : Int), bf, nb) cP) (fun x9 : Nat × Nat × NF × Int => match x9 with | (j, B, bf, nb) => [(7, .int (iI (j : Int))), (6, .int (iI (((kfF (bhW G S M (posT.getD po [])) j) : Nat) : Int))), (5, .int (iI (((kxF (bhW G S M (posT.getD po [])) j) : Nat) : Int))), (4, .int (iI (((kwF (bhW G S M (posT.getD po [])) j) : Nat) : Int))), (2, .long (lN B)), (0, .ref (ad 0)), (1, .int (iI (po : Int)))]) (0, 0, cL.2.2.2.2.2.2.1, cL.2.2.2.2.2.2.2) (by show bagI (bhW G S M (posT.getD po [])) 0 0 ((wnL ((bhW G S M (posT.getD po [])).take 0) : Nat) : Int); exact (by rw [List.take_zero]; exact bagI_0 _)) ?_
    rintro ⟨j, B, bf, nb⟩ hI ih43
    have hI : bagI (bhW G S M (posT.getD po [])) j B ((wnL ((bhW G S M (posT.getD po [])).take j) : Nat) : Int) := hI
    have kb := k_b (vs := (bhW G S M (posT.getD po []))) (fun v hv => (bhW_b hH v hv).2.2.1) j
    have hjl := hI.1
    refine j_iload F dX7_knows_43 0 rfl ?_
    refine j_aload_n F dX7_knows_45 rfl 5 rfl ?_
    refine j_getf F (ref := "CairnGameModel") (C := RX7) (T := TX7) (N := 27) (ci := 7) (index := 76) (v := .int (iI (((mvL G S M (posT.getD po [])).length : Nat) : Int))) (fun w h => (List.mem_cons_of_mem _ (List.mem_append_right _ h))) 0 rfl rfl 19 (by decide) (List.mem_cons_of_mem _ (List.mem_append_left _ (List.mem_append_left _ (List.mem_of_getElem? (l := wsX7_knows_r1) (i := 0) rfl)))) rfl rfl dX7_knows_46 ?_
    refine j_icmp_ge F (tgt := 156) dX7_knows_49 (by decide) ⟨(by unfold rg; omega), (by unfold rg; omega)⟩ (fun c49 => ?_) (fun c49 => ?_)
    · have ej : j = (bhW G S M (posT.getD po [])).length := by rw [bhW_len] at *; omega
      rw [ej] at hI
      have hmem := bagI_mem hI
      have hB24 := hI.2.1
      have ev : val G S M (posT.getD po []) = combV (bhW G S M (posT.getD po [])) := val_eq hH
      rw [comb_k] at ev
      refine j_iconst F dX7_knows_156 ?_
      refine j_istore F (lv' := [(7, .int (iI 0)), (6, .int (iI (((kfF (bhW G S M (posT.getD po [])) j) : Nat) : Int))), (5, .int (iI (((kxF (bhW G S M (posT.getD po [])) j) : Nat) : Int))), (4, .int (iI (((kwF (bhW G S M (posT.getD po [])) j) : Nat) : Int))), (2, .long (lN B)), (0, .ref (ad 0)), (1, .int (iI (po : Int)))]) dX7_knows_157 (by decide) rfl ?_
      refine J.loc [0, 1, 2, 3, 4, 5, 6] rfl ?_
      refine J_loop (σ := Nat) (fun i : Nat => i ≤ 24 ∧ mexF ((bhW G S M (posT.getD po [])).map (fun w => w.1)) (63 - i) i = mexF ((bhW G S M (posT.getD po [])).map (fun w => w.1)) 63 0) (fun i : Nat => 24 - i) (fun i : Nat => moC g ad th cC cT (u9.1, ((((posT.getD po [])).length : Nat) : Int), u9.2.1, u9.2.2.1, u9.2.2.2, (((mvL G S M (posT.getD po [])).length : Nat) : Int), bf, nb) cP) (fun i : Nat => [(7, .int (iI (i : Int))), (6, .int (iI (((kfF (bhW G S M (posT.getD po [])) j) : Nat) : Int))), (5, .int (iI (((kxF (bhW G S M (posT.getD po [])) j) : Nat) : Int))), (4, .int (iI (((kwF (bhW G S M (posT.getD po [])) j) : Nat) : Int))), (2, .long (lN B)), (0, .ref (ad 0)), (1, .int (iI (po : Int)))]) (0) (by show 0 ≤ 24 ∧ mexF ((bhW G S M (posT.getD po [])).map (fun w => w.1)) (63 - 0) 0 = mexF ((bhW G S M (posT.getD po [])).map (fun w => w.1)) 63 0; exact ⟨Nat.zero_le _, rfl⟩) ?_
      rintro i hI ih159
      have hI : i ≤ 24 ∧ mexF ((bhW G S M (posT.getD po [])).map (fun w => w.1)) (63 - i) i = mexF ((bhW G S M (posT.getD po [])).map (fun w => w.1)) 63 0 := hI
      obtain ⟨m1, m2⟩ := hI
      refine j_lload_n F dX7_knows_159 rfl 4 rfl ?_
      refine j_iload F dX7_knows_160 0 rfl ?_
      refine j_lshr F rfl dX7_knows_162 ?_
      refine j_lconst F dX7_knows_163 ?_
      refine j_land F dX7_knows_164 ?_
      refine j_lconst F dX7_knows_165 ?_
      refine j_lcmp F dX7_knows_166 ?_
      refine j_ifl_ne F (tgt := 176) dX7_knows_167 (by decide) (fun c167 => ?_) (fun c167 => ?_)
      · have ei := mex_end m2 (Or.inr (fun w => c167 ((lb_bit (by omega)).mpr ((hmem i).mpr w)))) (by omega)
        refine j_aload_n F dX7_knows_176 rfl 5 rfl ?_
        refine j_getf F (ref := "CairnGameModel") (C := RX7) (T := TX7) (N := 27) (ci := 7) (index := 25) (v := .ref (ad 9)) (fun w h => (List.mem_cons_of_mem _ (List.mem_append_right _ h))) 0 rfl rfl 9 (by decide) (List.mem_cons_of_mem _ (List.mem_append_left _ (List.mem_append_left _ (List.mem_of_getElem? (l := wsX7_knows_r1) (i := 1) rfl)))) rfl rfl dX7_knows_177 ?_
        refine j_iload_n F dX7_knows_180 rfl 6 rfl ?_
        refine j_iload F dX7_knows_181 0 rfl ?_
        refine J.top (congrArg iI (show (i : Int) = ((((val G S M (posT.getD po [])).1) : Nat) : Int) from by rw [ei, ev])) ?_
        refine j_iast F (ws' := moC g ad th cC (cT.1, cT.2.1, cT.2.2.1, nup cT.2.2.2.1 po ((((val G S M (posT.getD po [])).1) : Nat) : Int), cT.2.2.2.2.1, cT.2.2.2.2.2.1, cT.2.2.2.2.2.2.1, cT.2.2.2.2.2.2.2) (u9.1, ((((posT.getD po [])).length : Nat) : Int), u9.2.1, u9.2.2.1, u9.2.2.2, (((mvL G S M (posT.getD po [])).length : Nat) : Int), bf, nb) cP) 6 (n := 272) (f := cT.2.2.2.1) rfl po (rfl) (by omega) (by decide) rfl dX7_knows_183 ?_
        refine j_aload_n F dX7_knows_184 rfl 5 rfl ?_
        refine j_getf F (ref := "CairnGameModel") (C := RX7) (T := TX7) (N := 27) (ci := 7) (index := 28) (v := .ref (ad 10)) (fun w h => (List.mem_cons_of_mem _ (List.mem_append_right _ h))) 0 rfl rfl 10 (by decide) (List.mem_cons_of_mem _ (List.mem_append_left _ (List.mem_append_left _ (List.mem_of_getElem? (l := wsX7_knows_r1) (i := 2) rfl)))) rfl rfl dX7_knows_185 ?_
        refine j_iload_n F dX7_knows_188 rfl 6 rfl ?_
        refine j_iload F dX7_knows_189 3 rfl ?_
        refine J.top (congrArg iI (show (((kwF (bhW G S M (posT.getD po [])) j) : Nat) : Int) = ((((val G S M (posT.getD po [])).2.1) : Nat) : Int) from by rw [ev, ej])) ?_
        refine j_iast F (ws' := moC g ad th cC (cT.1, cT.2.1, cT.2.2.1, nup cT.2.2.2.1 po ((((val G S M (posT.getD po [])).1) : Nat) : Int), nup cT.2.2.2.2.1 po ((((val G S M (posT.getD po [])).2.1) : Nat) : Int), cT.2.2.2.2.2.1, cT.2.2.2.2.2.2.1, cT.2.2.2.2.2.2.2) (u9.1, ((((posT.getD po [])).length : Nat) : Int), u9.2.1, u9.2.2.1, u9.2.2.2, (((mvL G S M (posT.getD po [])).length : Nat) : Int), bf, nb) cP) 7 (n := 272) (f := cT.2.2.2.2.1) rfl po (rfl) (by omega) (by decide) rfl dX7_knows_191 ?_
        refine j_aload_n F dX7_knows_192 rfl 5 rfl ?_
        refine j_getf F (ref := "CairnGameModel") (C := RX7) (T := TX7) (N := 27) (ci := 7) (index := 31) (v := .ref (ad 11)) (fun w h => (List.mem_cons_of_mem _ (List.mem_append_right _ h))) 0 rfl rfl 11 (by decide) (List.mem_cons_of_mem _ (List.mem_append_left _ (List.mem_append_left _ (List.mem_of_getElem? (l := wsX7_knows_r1) (i := 3) rfl)))) rfl rfl dX7_knows_193 ?_
        refine j_iload_n F dX7_knows_196 rfl 6 rfl ?_
        refine j_iload F dX7_knows_197 2 rfl ?_
        refine J.top (congrArg iI (show (((kxF (bhW G S M (posT.getD po [])) j) : Nat) : Int) = ((((val G S M (posT.getD po [])).2.2.1) : Nat) : Int) from by rw [ev, ej])) ?_
        refine j_iast F (ws' := moC g ad th cC (cT.1, cT.2.1, cT.2.2.1, nup cT.2.2.2.1 po ((((val G S M (posT.getD po [])).1) : Nat) : Int), nup cT.2.2.2.2.1 po ((((val G S M (posT.getD po [])).2.1) : Nat) : Int), nup cT.2.2.2.2.2.1 po ((((val G S M (posT.getD po [])).2.2.1) : Nat) : Int), cT.2.2.2.2.2.2.1, cT.2.2.2.2.2.2.2) (u9.1, ((((posT.getD po [])).length : Nat) : Int), u9.2.1, u9.2.2.1, u9.2.2.2, (((mvL G S M (posT.getD po [])).length : Nat) : Int), bf, nb) cP) 8 (n := 272) (f := cT.2.2.2.2.2.1) rfl po (rfl) (by omega) (by decide) rfl dX7_knows_199 ?_
        refine j_aload_n F dX7_knows_200 rfl 5 rfl ?_
        refine j_getf F (ref := "CairnGameModel") (C := RX7) (T := TX7) (N := 27) (ci := 7) (index := 34) (v := .ref (ad 12)) (fun w h => (List.mem_cons_of_mem _ (List.mem_append_right _ h))) 0 rfl rfl 12 (by decide) (List.mem_cons_of_mem _ (List.mem_append_left _ (List.mem_append_left _ (List.mem_of_getElem? (l := wsX7_knows_r1) (i := 4) rfl)))) rfl rfl dX7_knows_201 ?_
        refine j_iload_n F dX7_knows_204 rfl 6 rfl ?_
        refine j_iload F dX7_knows_205 1 rfl ?_
        refine J.top (congrArg iI (show (((kfF (bhW G S M (posT.getD po [])) j) : Nat) : Int) = ((((val G S M (posT.getD po [])).2.2.2) : Nat) : Int) from by rw [ev, ej])) ?_
        refine j_iast F (ws' := moC g ad th cC (cT.1, cT.2.1, cT.2.2.1, nup cT.2.2.2.1 po ((((val G S M (posT.getD po [])).1) : Nat) : Int), nup cT.2.2.2.2.1 po ((((val G S M (posT.getD po [])).2.1) : Nat) : Int), nup cT.2.2.2.2.2.1 po ((((val G S M (posT.getD po [])).2.2.1) : Nat) : Int), nup cT.2.2.2.2.2.2.1 po ((((val G S M (posT.getD po [])).2.2.2) : Nat) : Int), cT.2.2.2.2.2.2.2) (u9.1, ((((posT.getD po [])).length : Nat) : Int), u9.2.1, u9.2.2.1, u9.2.2.2, (((mvL G S M (posT.getD po [])).length : Nat) : Int), bf, nb) cP) 9 (n := 272) (f := cT.2.2.2.2.2.2.1) rfl po (rfl) (by omega) (by decide) rfl dX7_knows_207 ?_
        exact ret (u9.1, ((((posT.getD po [])).length : Nat) : Int), u9.2.1, u9.2.2.1, u9.2.2.2, (((mvL G S M (posT.getD po [])).length : Nat) : Int), bf, nb) 0 0 _ _ dX7_knows_208 (by decide) (by decide) trivial
      · have hbit := (lb_bit (by omega)).mp c167
        have hi24 : i + 1 ≤ 24 := by rcases Nat.lt_or_ge i 24 with w | w; (omega); rw [Nat.testBit_lt_two_pow (Nat.lt_of_lt_of_le hB24 (Nat.pow_le_pow_right (by decide) w))] at hbit; exact absurd hbit (by decide)
        refine j_iinc F (lv' := [(7, .int (iI ((i : Int) + 1))), (6, .int (iI (((kfF (bhW G S M (posT.getD po [])) j) : Nat) : Int))), (5, .int (iI (((kxF (bhW G S M (posT.getD po [])) j) : Nat) : Int))), (4, .int (iI (((kwF (bhW G S M (posT.getD po [])) j) : Nat) : Int))), (2, .long (lN B)), (0, .ref (ad 0)), (1, .int (iI (po : Int)))]) dX7_knows_170 0 rfl (by decide) rfl ?_
        refine j_goto F (tgt := 159) dX7_knows_173 (by decide) ?_
        refine J.loc [0, 1, 2, 3, 4, 5, 6] rfl ?_
        exact ih159 (i + 1) (by show (i + 1) ≤ 24 ∧ mexF ((bhW G S M (posT.getD po [])).map (fun w => w.1)) (63 - (i + 1)) (i + 1) = mexF ((bhW G S M (posT.getD po [])).map (fun w => w.1)) 63 0; exact ⟨hi24, mex_step (by omega) m2 ((hmem i).mp hbit)⟩) (by show 24 - (i + 1) < 24 - i; omega)
    · have hj : j < (mvL G S M (posT.getD po [])).length := by omega
      have hjv : j < (bhW G S M (posT.getD po [])).length := by rw [bhW_len]; exact hj
      refine j_aload_n F dX7_knows_52 rfl 5 rfl ?_
      refine j_iload F dX7_knows_53 0 rfl ?_
      refine j_callV_I F (As := [.int (iI (j : Int))]) (wr := []) (st := []) (c_X7_positionBehind hfl D g z ad th cC cT cP (posT.getD po []) G S M u9.1 u9.2.1 u9.2.2.1 u9.2.2.2 bf nb j hH hP h9 h8 hj) (idx := 100) (C := RX7) gX7_knows_X7_positionBehind rfl rfl [0, 1, 2, 3, 4, 5, 6, 7, 8, 9, 10, 11, 12, 13, 14] [] rfl rfl (by decide) (by decide) (by decide) (ci := 7) (q0 := 0) rfl rfl (by decide) (by decide) (le_ble rfl) ⟨by decide, by decide⟩ dX7_knows_55 ?_
      rintro r7 u7 ⟨h7, q7, e7, b7, n7⟩
      subst h7
      have hlt : u7.2.2 < po := key_lt q7 (by rw [e7]; exact key_behind hH (mv_ok hj))
      obtain ⟨t1, t2, t3, t4⟩ := hT _ hlt
      have ev : val G S M (posT.getD u7.2.2 []) = ((bhW G S M (posT.getD po [])).getD j v0) := by rw [e7, bhW_at hj]; exact val_perm (sortL_perm _)
      rw [ev] at t1 t2 t3 t4
      obtain ⟨v1, v2, v3, v4⟩ := bhW_b hH _ (getD_memV hjv)
      have kw9 := kw_s hjv
      have kf9 := kf_s hjv
      have kx9 := kx_s hjv
      refine J.wsEq (ws2 := moC g ad th cC cT (u9.1, ((((posT.getD po [])).length : Nat) : Int), u9.2.1, u9.2.2.1, u9.2.2.2, (((mvL G S M (posT.getD po [])).length : Nat) : Int), u7.1, u7.2.1) cP) rfl ?_
      refine j_istore F (lv' := [(8, .int (iI ((u7.2.2 : Nat) : Int))), (7, .int (iI (j : Int))), (6, .int (iI (((kfF (bhW G S M (posT.getD po [])) j) : Nat) : Int))), (5, .int (iI (((kxF (bhW G S M (posT.getD po [])) j) : Nat) : Int))), (4, .int (iI (((kwF (bhW G S M (posT.getD po [])) j) : Nat) : Int))), (2, .long (lN B)), (0, .ref (ad 0)), (1, .int (iI (po : Int)))]) dX7_knows_58 (by decide) rfl ?_
      refine j_lload_n F dX7_knows_60 rfl 5 rfl ?_
      refine j_lconst F dX7_knows_61 ?_
      refine j_aload_n F dX7_knows_62 rfl 6 rfl ?_
      refine j_getf F (ref := "CairnGameModel") (C := RX7) (T := TX7) (N := 27) (ci := 7) (index := 25) (v := .ref (ad 9)) (fun w h => (List.mem_cons_of_mem _ (List.mem_append_right _ h))) 0 rfl rfl 9 (by decide) (List.mem_cons_of_mem _ (List.mem_append_left _ (List.mem_append_left _ (List.mem_of_getElem? (l := wsX7_knows_r1) (i := 1) rfl)))) rfl rfl dX7_knows_63 ?_
      refine j_iload F dX7_knows_66 0 rfl ?_
      refine j_iald F 6 (n := 272) (f := cT.2.2.2.1) rfl u7.2.2 (by omega) (by omega) (by decide) dX7_knows_68 ?_
      refine J.top (congrArg iI (show cT.2.2.2.1 u7.2.2 = ((((bhW G S M (posT.getD po [])).getD j v0).1 : Nat) : Int) from t1)) ?_
      refine j_lshl F rfl dX7_knows_69 ?_
      refine J.topL (show (1 <<< ((iI ((((bhW G S M (posT.getD po [])).getD j v0).1 : Nat) : Int)).toInt64 &&& 63)) = (lN (2 ^ ((bhW G S M (posT.getD po [])).getD j v0).1)) from lb_one _ (by omega)) ?_
      refine j_lor F dX7_knows_70 ?_
      refine J.topL (show ((lN B) ||| (lN (2 ^ ((bhW G S M (posT.getD po [])).getD j v0).1))) = (lN (B ||| 2 ^ ((bhW G S M (posT.getD po [])).getD j v0).1)) from lb_or _ _) ?_
      refine j_lstore_n F (lv' := [(2, .long (lN (B ||| 2 ^ ((bhW G S M (posT.getD po [])).getD j v0).1))), (8, .int (iI ((u7.2.2 : Nat) : Int))), (7, .int (iI (j : Int))), (6, .int (iI (((kfF (bhW G S M (posT.getD po [])) j) : Nat) : Int))), (5, .int (iI (((kxF (bhW G S M (posT.getD po [])) j) : Nat) : Int))), (4, .int (iI (((kwF (bhW G S M (posT.getD po [])) j) : Nat) : Int))), (0, .ref (ad 0)), (1, .int (iI (po : Int)))]) dX7_knows_71 rfl (by decide) rfl ?_
      refine j_aload_n F dX7_knows_72 rfl 6 rfl ?_
      refine j_getf F (ref := "CairnGameModel") (C := RX7) (T := TX7) (N := 27) (ci := 7) (index := 28) (v := .ref (ad 10)) (fun w h => (List.mem_cons_of_mem _ (List.mem_append_right _ h))) 0 rfl rfl 10 (by decide) (List.mem_cons_of_mem _ (List.mem_append_left _ (List.mem_append_left _ (List.mem_of_getElem? (l := wsX7_knows_r1) (i := 2) rfl)))) rfl rfl dX7_knows_73 ?_
      refine j_iload F dX7_knows_76 1 rfl ?_
      refine j_iald F 7 (n := 272) (f := cT.2.2.2.2.1) rfl u7.2.2 (by omega) (by omega) (by decide) dX7_knows_78 ?_
      refine J.top (congrArg iI (show cT.2.2.2.2.1 u7.2.2 = ((((bhW G S M (posT.getD po [])).getD j v0).2.1 : Nat) : Int) from t2)) ?_
      refine j_if_ne F (tgt := 86) dX7_knows_79 (by decide) (by unfold rg; omega) (fun c79 => ?_) (fun c79 => ?_)
      · refine j_iload F dX7_knows_86 5 rfl ?_
        refine j_istore F (lv' := [(4, .int (iI (((kwF (bhW G S M (posT.getD po [])) j) : Nat) : Int))), (2, .long (lN (B ||| 2 ^ ((bhW G S M (posT.getD po [])).getD j v0).1))), (8, .int (iI ((u7.2.2 : Nat) : Int))), (7, .int (iI (j : Int))), (6, .int (iI (((kfF (bhW G S M (posT.getD po [])) j) : Nat) : Int))), (5, .int (iI (((kxF (bhW G S M (posT.getD po [])) j) : Nat) : Int))), (0, .ref (ad 0)), (1, .int (iI (po : Int)))]) dX7_knows_88 (by decide) rfl ?_
        rw [if_neg (by omega)] at kw9
        refine J.lvEq (lv2 := [(4, .int (iI (((kwF (bhW G S M (posT.getD po [])) (j + 1)) : Nat) : Int))), (2, .long (lN (B ||| 2 ^ ((bhW G S M (posT.getD po [])).getD j v0).1))), (8, .int (iI ((u7.2.2 : Nat) : Int))), (7, .int (iI (j : Int))), (6, .int (iI (((kfF (bhW G S M (posT.getD po [])) j) : Nat) : Int))), (5, .int (iI (((kxF (bhW G S M (posT.getD po [])) j) : Nat) : Int))), (0, .ref (ad 0)), (1, .int (iI (po : Int)))]) (by rw [kw9]) ?_
        refine j_aload_n F dX7_knows_90 rfl 6 rfl ?_
        refine j_getf F (ref := "CairnGameModel") (C := RX7) (T := TX7) (N := 27) (ci := 7) (index := 31) (v := .ref (ad 11)) (fun w h => (List.mem_cons_of_mem _ (List.mem_append_right _ h))) 0 rfl rfl 11 (by decide) (List.mem_cons_of_mem _ (List.mem_append_left _ (List.mem_append_left _ (List.mem_of_getElem? (l := wsX7_knows_r1) (i := 3) rfl)))) rfl rfl dX7_knows_91 ?_
        refine j_iload F dX7_knows_94 2 rfl ?_
        refine j_iald F 8 (n := 272) (f := cT.2.2.2.2.2.1) rfl u7.2.2 (by omega) (by omega) (by decide) dX7_knows_96 ?_
        refine J.top (congrArg iI (show cT.2.2.2.2.2.1 u7.2.2 = ((((bhW G S M (posT.getD po [])).getD j v0).2.2.1 : Nat) : Int) from t3)) ?_
        refine j_iconst F dX7_knows_97 ?_
        refine j_iadd F dX7_knows_98 ?_
        refine j_iload F dX7_knows_99 5 rfl ?_
        refine j_icmp_le F (tgt := 116) dX7_knows_101 (by decide) ⟨(by unfold rg; omega), (by unfold rg; omega)⟩ (fun c101 => ?_) (fun c101 => ?_)
        · refine j_iload F dX7_knows_116 5 rfl ?_
          refine j_istore F (lv' := [(5, .int (iI (((kxF (bhW G S M (posT.getD po [])) j) : Nat) : Int))), (4, .int (iI (((kwF (bhW G S M (posT.getD po [])) (j + 1)) : Nat) : Int))), (2, .long (lN (B ||| 2 ^ ((bhW G S M (posT.getD po [])).getD j v0).1))), (8, .int (iI ((u7.2.2 : Nat) : Int))), (7, .int (iI (j : Int))), (6, .int (iI (((kfF (bhW G S M (posT.getD po [])) j) : Nat) : Int))), (0, .ref (ad 0)), (1, .int (iI (po : Int)))]) dX7_knows_118 (by decide) rfl ?_
          rw [show max (kxF (bhW G S M (posT.getD po [])) j) (((bhW G S M (posT.getD po [])).getD j v0).2.2.1 + 1) = kxF (bhW G S M (posT.getD po [])) j by omega] at kx9
          refine J.lvEq (lv2 := [(5, .int (iI (((kxF (bhW G S M (posT.getD po [])) (j + 1)) : Nat) : Int))), (4, .int (iI (((kwF (bhW G S M (posT.getD po [])) (j + 1)) : Nat) : Int))), (2, .long (lN (B ||| 2 ^ ((bhW G S M (posT.getD po [])).getD j v0).1))), (8, .int (iI ((u7.2.2 : Nat) : Int))), (7, .int (iI (j : Int))), (6, .int (iI (((kfF (bhW G S M (posT.getD po [])) j) : Nat) : Int))), (0, .ref (ad 0)), (1, .int (iI (po : Int)))]) (by rw [kx9]) ?_
          refine j_aload_n F dX7_knows_120 rfl 6 rfl ?_
          refine j_getf F (ref := "CairnGameModel") (C := RX7) (T := TX7) (N := 27) (ci := 7) (index := 34) (v := .ref (ad 12)) (fun w h => (List.mem_cons_of_mem _ (List.mem_append_right _ h))) 0 rfl rfl 12 (by decide) (List.mem_cons_of_mem _ (List.mem_append_left _ (List.mem_append_left _ (List.mem_of_getElem? (l := wsX7_knows_r1) (i := 4) rfl)))) rfl rfl dX7_knows_121 ?_
          refine j_iload F dX7_knows_124 3 rfl ?_
          refine j_iald F 9 (n := 272) (f := cT.2.2.2.2.2.2.1) rfl u7.2.2 (by omega) (by omega) (by decide) dX7_knows_126 ?_
          refine J.top (congrArg iI (show cT.2.2.2.2.2.2.1 u7.2.2 = ((((bhW G S M (posT.getD po [])).getD j v0).2.2.2 : Nat) : Int) from t4)) ?_
          refine j_iconst F dX7_knows_127 ?_
          refine j_iadd F dX7_knows_128 ?_
          refine j_iload F dX7_knows_129 5 rfl ?_
          refine j_icmp_ge F (tgt := 146) dX7_knows_131 (by decide) ⟨(by unfold rg; omega), (by unfold rg; omega)⟩ (fun c131 => ?_) (fun c131 => ?_)
          · refine j_iload F dX7_knows_146 5 rfl ?_
            refine j_istore F (lv' := [(6, .int (iI (((kfF (bhW G S M (posT.getD po [])) j) : Nat) : Int))), (5, .int (iI (((kxF (bhW G S M (posT.getD po [])) (j + 1)) : Nat) : Int))), (4, .int (iI (((kwF (bhW G S M (posT.getD po [])) (j + 1)) : Nat) : Int))), (2, .long (lN (B ||| 2 ^ ((bhW G S M (posT.getD po [])).getD j v0).1))), (8, .int (iI ((u7.2.2 : Nat) : Int))), (7, .int (iI (j : Int))), (0, .ref (ad 0)), (1, .int (iI (po : Int)))]) dX7_knows_148 (by decide) rfl ?_
            rw [show min (kfF (bhW G S M (posT.getD po [])) j) (((bhW G S M (posT.getD po [])).getD j v0).2.2.2 + 1) = kfF (bhW G S M (posT.getD po [])) j by omega] at kf9
            refine J.lvEq (lv2 := [(6, .int (iI (((kfF (bhW G S M (posT.getD po [])) (j + 1)) : Nat) : Int))), (5, .int (iI (((kxF (bhW G S M (posT.getD po [])) (j + 1)) : Nat) : Int))), (4, .int (iI (((kwF (bhW G S M (posT.getD po [])) (j + 1)) : Nat) : Int))), (2, .long (lN (B ||| 2 ^ ((bhW G S M (posT.getD po [])).getD j v0).1))), (8, .int (iI ((u7.2.2 : Nat) : Int))), (7, .int (iI (j : Int))), (0, .ref (ad 0)), (1, .int (iI (po : Int)))]) (by rw [kf9]) ?_
            refine j_iinc F (lv' := [(7, .int (iI ((j : Int) + 1))), (6, .int (iI (((kfF (bhW G S M (posT.getD po [])) (j + 1)) : Nat) : Int))), (5, .int (iI (((kxF (bhW G S M (posT.getD po [])) (j + 1)) : Nat) : Int))), (4, .int (iI (((kwF (bhW G S M (posT.getD po [])) (j + 1)) : Nat) : Int))), (2, .long (lN (B ||| 2 ^ ((bhW G S M (posT.getD po [])).getD j v0).1))), (8, .int (iI ((u7.2.2 : Nat) : Int))), (0, .ref (ad 0)), (1, .int (iI (po : Int)))]) dX7_knows_150 5 rfl (by decide) rfl ?_
            refine j_goto F (tgt := 43) dX7_knows_153 (by decide) ?_
            refine J.loc [0, 1, 2, 3, 4, 6, 7] rfl ?_
            exact ih43 ((j + 1), (B ||| 2 ^ ((bhW G S M (posT.getD po [])).getD j v0).1), u7.1, u7.2.1) (by show bagI (bhW G S M (posT.getD po [])) (j + 1) (B ||| 2 ^ ((bhW G S M (posT.getD po [])).getD j v0).1) ((wnL ((bhW G S M (posT.getD po [])).take (j + 1)) : Nat) : Int); exact bag_w hI hjv (by omega)) (by show (bhW G S M (posT.getD po [])).length - (j + 1) < (bhW G S M (posT.getD po [])).length - j; omega)
          · refine j_aload_n F dX7_knows_134 rfl 6 rfl ?_
            refine j_getf F (ref := "CairnGameModel") (C := RX7) (T := TX7) (N := 27) (ci := 7) (index := 34) (v := .ref (ad 12)) (fun w h => (List.mem_cons_of_mem _ (List.mem_append_right _ h))) 0 rfl rfl 12 (by decide) (List.mem_cons_of_mem _ (List.mem_append_left _ (List.mem_append_left _ (List.mem_of_getElem? (l := wsX7_knows_r1) (i := 4) rfl)))) rfl rfl dX7_knows_135 ?_
            refine j_iload F dX7_knows_138 3 rfl ?_
            refine j_iald F 9 (n := 272) (f := cT.2.2.2.2.2.2.1) rfl u7.2.2 (by omega) (by omega) (by decide) dX7_knows_140 ?_
            refine J.top (congrArg iI (show cT.2.2.2.2.2.2.1 u7.2.2 = ((((bhW G S M (posT.getD po [])).getD j v0).2.2.2 : Nat) : Int) from t4)) ?_
            refine j_iconst F dX7_knows_141 ?_
            refine j_iadd F dX7_knows_142 ?_
            refine j_goto F (tgt := 148) dX7_knows_143 (by decide) ?_
            refine j_istore F (lv' := [(6, .int (iI (((((bhW G S M (posT.getD po [])).getD j v0).2.2.2 : Nat) : Int) + 1))), (5, .int (iI (((kxF (bhW G S M (posT.getD po [])) (j + 1)) : Nat) : Int))), (4, .int (iI (((kwF (bhW G S M (posT.getD po [])) (j + 1)) : Nat) : Int))), (2, .long (lN (B ||| 2 ^ ((bhW G S M (posT.getD po [])).getD j v0).1))), (8, .int (iI ((u7.2.2 : Nat) : Int))), (7, .int (iI (j : Int))), (0, .ref (ad 0)), (1, .int (iI (po : Int)))]) dX7_knows_148 (by decide) rfl ?_
            rw [show min (kfF (bhW G S M (posT.getD po [])) j) (((bhW G S M (posT.getD po [])).getD j v0).2.2.2 + 1) = ((bhW G S M (posT.getD po [])).getD j v0).2.2.2 + 1 by omega] at kf9
            refine J.lvEq (lv2 := [(6, .int (iI (((kfF (bhW G S M (posT.getD po [])) (j + 1)) : Nat) : Int))), (5, .int (iI (((kxF (bhW G S M (posT.getD po [])) (j + 1)) : Nat) : Int))), (4, .int (iI (((kwF (bhW G S M (posT.getD po [])) (j + 1)) : Nat) : Int))), (2, .long (lN (B ||| 2 ^ ((bhW G S M (posT.getD po [])).getD j v0).1))), (8, .int (iI ((u7.2.2 : Nat) : Int))), (7, .int (iI (j : Int))), (0, .ref (ad 0)), (1, .int (iI (po : Int)))]) (by rw [kf9]; rfl) ?_
            refine j_iinc F (lv' := [(7, .int (iI ((j : Int) + 1))), (6, .int (iI (((kfF (bhW G S M (posT.getD po [])) (j + 1)) : Nat) : Int))), (5, .int (iI (((kxF (bhW G S M (posT.getD po [])) (j + 1)) : Nat) : Int))), (4, .int (iI (((kwF (bhW G S M (posT.getD po [])) (j + 1)) : Nat) : Int))), (2, .long (lN (B ||| 2 ^ ((bhW G S M (posT.getD po [])).getD j v0).1))), (8, .int (iI ((u7.2.2 : Nat) : Int))), (0, .ref (ad 0)), (1, .int (iI (po : Int)))]) dX7_knows_150 5 rfl (by decide) rfl ?_
            refine j_goto F (tgt := 43) dX7_knows_153 (by decide) ?_
            refine J.loc [0, 1, 2, 3, 4, 6, 7] rfl ?_
            exact ih43 ((j + 1), (B ||| 2 ^ ((bhW G S M (posT.getD po [])).getD j v0).1), u7.1, u7.2.1) (by show bagI (bhW G S M (posT.getD po [])) (j + 1) (B ||| 2 ^ ((bhW G S M (posT.getD po [])).getD j v0).1) ((wnL ((bhW G S M (posT.getD po [])).take (j + 1)) : Nat) : Int); exact bag_w hI hjv (by omega)) (by show (bhW G S M (posT.getD po [])).length - (j + 1) < (bhW G S M (posT.getD po [])).length - j; omega)
        · refine j_aload_n F dX7_knows_104 rfl 6 rfl ?_
          refine j_getf F (ref := "CairnGameModel") (C := RX7) (T := TX7) (N := 27) (ci := 7) (index := 31) (v := .ref (ad 11)) (fun w h => (List.mem_cons_of_mem _ (List.mem_append_right _ h))) 0 rfl rfl 11 (by decide) (List.mem_cons_of_mem _ (List.mem_append_left _ (List.mem_append_left _ (List.mem_of_getElem? (l := wsX7_knows_r1) (i := 3) rfl)))) rfl rfl dX7_knows_105 ?_
          refine j_iload F dX7_knows_108 2 rfl ?_
          refine j_iald F 8 (n := 272) (f := cT.2.2.2.2.2.1) rfl u7.2.2 (by omega) (by omega) (by decide) dX7_knows_110 ?_
          refine J.top (congrArg iI (show cT.2.2.2.2.2.1 u7.2.2 = ((((bhW G S M (posT.getD po [])).getD j v0).2.2.1 : Nat) : Int) from t3)) ?_
          refine j_iconst F dX7_knows_111 ?_
          refine j_iadd F dX7_knows_112 ?_
          refine j_goto F (tgt := 118) dX7_knows_113 (by decide) ?_
          refine j_istore F (lv' := [(5, .int (iI (((((bhW G S M (posT.getD po [])).getD j v0).2.2.1 : Nat) : Int) + 1))), (4, .int (iI (((kwF (bhW G S M (posT.getD po [])) (j + 1)) : Nat) : Int))), (2, .long (lN (B ||| 2 ^ ((bhW G S M (posT.getD po [])).getD j v0).1))), (8, .int (iI ((u7.2.2 : Nat) : Int))), (7, .int (iI (j : Int))), (6, .int (iI (((kfF (bhW G S M (posT.getD po [])) j) : Nat) : Int))), (0, .ref (ad 0)), (1, .int (iI (po : Int)))]) dX7_knows_118 (by decide) rfl ?_
          rw [show max (kxF (bhW G S M (posT.getD po [])) j) (((bhW G S M (posT.getD po [])).getD j v0).2.2.1 + 1) = ((bhW G S M (posT.getD po [])).getD j v0).2.2.1 + 1 by omega] at kx9
          refine J.lvEq (lv2 := [(5, .int (iI (((kxF (bhW G S M (posT.getD po [])) (j + 1)) : Nat) : Int))), (4, .int (iI (((kwF (bhW G S M (posT.getD po [])) (j + 1)) : Nat) : Int))), (2, .long (lN (B ||| 2 ^ ((bhW G S M (posT.getD po [])).getD j v0).1))), (8, .int (iI ((u7.2.2 : Nat) : Int))), (7, .int (iI (j : Int))), (6, .int (iI (((kfF (bhW G S M (posT.getD po [])) j) : Nat) : Int))), (0, .ref (ad 0)), (1, .int (iI (po : Int)))]) (by rw [kx9]; rfl) ?_
          refine j_aload_n F dX7_knows_120 rfl 6 rfl ?_
          refine j_getf F (ref := "CairnGameModel") (C := RX7) (T := TX7) (N := 27) (ci := 7) (index := 34) (v := .ref (ad 12)) (fun w h => (List.mem_cons_of_mem _ (List.mem_append_right _ h))) 0 rfl rfl 12 (by decide) (List.mem_cons_of_mem _ (List.mem_append_left _ (List.mem_append_left _ (List.mem_of_getElem? (l := wsX7_knows_r1) (i := 4) rfl)))) rfl rfl dX7_knows_121 ?_
          refine j_iload F dX7_knows_124 3 rfl ?_
          refine j_iald F 9 (n := 272) (f := cT.2.2.2.2.2.2.1) rfl u7.2.2 (by omega) (by omega) (by decide) dX7_knows_126 ?_
          refine J.top (congrArg iI (show cT.2.2.2.2.2.2.1 u7.2.2 = ((((bhW G S M (posT.getD po [])).getD j v0).2.2.2 : Nat) : Int) from t4)) ?_
          refine j_iconst F dX7_knows_127 ?_
          refine j_iadd F dX7_knows_128 ?_
          refine j_iload F dX7_knows_129 5 rfl ?_
          refine j_icmp_ge F (tgt := 146) dX7_knows_131 (by decide) ⟨(by unfold rg; omega), (by unfold rg; omega)⟩ (fun c131 => ?_) (fun c131 => ?_)
          · refine j_iload F dX7_knows_146 5 rfl ?_
            refine j_istore F (lv' := [(6, .int (iI (((kfF (bhW G S M (posT.getD po [])) j) : Nat) : Int))), (5, .int (iI (((kxF (bhW G S M (posT.getD po [])) (j + 1)) : Nat) : Int))), (4, .int (iI (((kwF (bhW G S M (posT.getD po [])) (j + 1)) : Nat) : Int))), (2, .long (lN (B ||| 2 ^ ((bhW G S M (posT.getD po [])).getD j v0).1))), (8, .int (iI ((u7.2.2 : Nat) : Int))), (7, .int (iI (j : Int))), (0, .ref (ad 0)), (1, .int (iI (po : Int)))]) dX7_knows_148 (by decide) rfl ?_
            rw [show min (kfF (bhW G S M (posT.getD po [])) j) (((bhW G S M (posT.getD po [])).getD j v0).2.2.2 + 1) = kfF (bhW G S M (posT.getD po [])) j by omega] at kf9
            refine J.lvEq (lv2 := [(6, .int (iI (((kfF (bhW G S M (posT.getD po [])) (j + 1)) : Nat) : Int))), (5, .int (iI (((kxF (bhW G S M (posT.getD po [])) (j + 1)) : Nat) : Int))), (4, .int (iI (((kwF (bhW G S M (posT.getD po [])) (j + 1)) : Nat) : Int))), (2, .long (lN (B ||| 2 ^ ((bhW G S M (posT.getD po [])).getD j v0).1))), (8, .int (iI ((u7.2.2 : Nat) : Int))), (7, .int (iI (j : Int))), (0, .ref (ad 0)), (1, .int (iI (po : Int)))]) (by rw [kf9]) ?_
            refine j_iinc F (lv' := [(7, .int (iI ((j : Int) + 1))), (6, .int (iI (((kfF (bhW G S M (posT.getD po [])) (j + 1)) : Nat) : Int))), (5, .int (iI (((kxF (bhW G S M (posT.getD po [])) (j + 1)) : Nat) : Int))), (4, .int (iI (((kwF (bhW G S M (posT.getD po [])) (j + 1)) : Nat) : Int))), (2, .long (lN (B ||| 2 ^ ((bhW G S M (posT.getD po [])).getD j v0).1))), (8, .int (iI ((u7.2.2 : Nat) : Int))), (0, .ref (ad 0)), (1, .int (iI (po : Int)))]) dX7_knows_150 5 rfl (by decide) rfl ?_
            refine j_goto F (tgt := 43) dX7_knows_153 (by decide) ?_
            refine J.loc [0, 1, 2, 3, 4, 6, 7] rfl ?_
            exact ih43 ((j + 1), (B ||| 2 ^ ((bhW G S M (posT.getD po [])).getD j v0).1), u7.1, u7.2.1) (by show bagI (bhW G S M (posT.getD po [])) (j + 1) (B ||| 2 ^ ((bhW G S M (posT.getD po [])).getD j v0).1) ((wnL ((bhW G S M (posT.getD po [])).take (j + 1)) : Nat) : Int); exact bag_w hI hjv (by omega)) (by show (bhW G S M (posT.getD po [])).length - (j + 1) < (bhW G S M (posT.getD po [])).length - j; omega)
          · refine j_aload_n F dX7_knows_134 rfl 6 rfl ?_
            refine j_getf F (ref := "CairnGameModel") (C := RX7) (T := TX7) (N := 27) (ci := 7) (index := 34) (v := .ref (ad 12)) (fun w h => (List.mem_cons_of_mem _ (List.mem_append_right _ h))) 0 rfl rfl 12 (by decide) (List.mem_cons_of_mem _ (List.mem_append_left _ (List.mem_append_left _ (List.mem_of_getElem? (l := wsX7_knows_r1) (i := 4) rfl)))) rfl rfl dX7_knows_135 ?_
            refine j_iload F dX7_knows_138 3 rfl ?_
            refine j_iald F 9 (n := 272) (f := cT.2.2.2.2.2.2.1) rfl u7.2.2 (by omega) (by omega) (by decide) dX7_knows_140 ?_
            refine J.top (congrArg iI (show cT.2.2.2.2.2.2.1 u7.2.2 = ((((bhW G S M (posT.getD po [])).getD j v0).2.2.2 : Nat) : Int) from t4)) ?_
            refine j_iconst F dX7_knows_141 ?_
            refine j_iadd F dX7_knows_142 ?_
            refine j_goto F (tgt := 148) dX7_knows_143 (by decide) ?_
            refine j_istore F (lv' := [(6, .int (iI (((((bhW G S M (posT.getD po [])).getD j v0).2.2.2 : Nat) : Int) + 1))), (5, .int (iI (((kxF (bhW G S M (posT.getD po [])) (j + 1)) : Nat) : Int))), (4, .int (iI (((kwF (bhW G S M (posT.getD po [])) (j + 1)) : Nat) : Int))), (2, .long (lN (B ||| 2 ^ ((bhW G S M (posT.getD po [])).getD j v0).1))), (8, .int (iI ((u7.2.2 : Nat) : Int))), (7, .int (iI (j : Int))), (0, .ref (ad 0)), (1, .int (iI (po : Int)))]) dX7_knows_148 (by decide) rfl ?_
            rw [show min (kfF (bhW G S M (posT.getD po [])) j) (((bhW G S M (posT.getD po [])).getD j v0).2.2.2 + 1) = ((bhW G S M (posT.getD po [])).getD j v0).2.2.2 + 1 by omega] at kf9
            refine J.lvEq (lv2 := [(6, .int (iI (((kfF (bhW G S M (posT.getD po [])) (j + 1)) : Nat) : Int))), (5, .int (iI (((kxF (bhW G S M (posT.getD po [])) (j + 1)) : Nat) : Int))), (4, .int (iI (((kwF (bhW G S M (posT.getD po [])) (j + 1)) : Nat) : Int))), (2, .long (lN (B ||| 2 ^ ((bhW G S M (posT.getD po [])).getD j v0).1))), (8, .int (iI ((u7.2.2 : Nat) : Int))), (7, .int (iI (j : Int))), (0, .ref (ad 0)), (1, .int (iI (po : Int)))]) (by rw [kf9]; rfl) ?_
            refine j_iinc F (lv' := [(7, .int (iI ((j : Int) + 1))), (6, .int (iI (((kfF (bhW G S M (posT.getD po [])) (j + 1)) : Nat) : Int))), (5, .int (iI (((kxF (bhW G S M (posT.getD po [])) (j + 1)) : Nat) : Int))), (4, .int (iI (((kwF (bhW G S M (posT.getD po [])) (j + 1)) : Nat) : Int))), (2, .long (lN (B ||| 2 ^ ((bhW G S M (posT.getD po [])).getD j v0).1))), (8, .int (iI ((u7.2.2 : Nat) : Int))), (0, .ref (ad 0)), (1, .int (iI (po : Int)))]) dX7_knows_150 5 rfl (by decide) rfl ?_
            refine j_goto F (tgt := 43) dX7_knows_153 (by decide) ?_
            refine J.loc [0, 1, 2, 3, 4, 6, 7] rfl ?_
            exact ih43 ((j + 1), (B ||| 2 ^ ((bhW G S M (posT.getD po [])).getD j v0).1), u7.1, u7.2.1) (by show bagI (bhW G S M (posT.getD po [])) (j + 1) (B ||| 2 ^ ((bhW G S M (posT.getD po [])).getD j v0).1) ((wnL ((bhW G S M (posT.getD po [])).take (j + 1)) : Nat) : Int); exact bag_w hI hjv (by omega)) (by show (bhW G S M (posT.getD po [])).length - (j + 1) < (bhW G S M (posT.getD po [])).length - j; omega)
      · refine j_iconst F dX7_knows_82 ?_
        refine j_goto F (tgt := 88) dX7_knows_83 (by decide) ?_
        refine j_istore F (lv' := [(4, .int (iI 1)), (2, .long (lN (B ||| 2 ^ ((bhW G S M (posT.getD po [])).getD j v0).1))), (8, .int (iI ((u7.2.2 : Nat) : Int))), (7, .int (iI (j : Int))), (6, .int (iI (((kfF (bhW G S M (posT.getD po [])) j) : Nat) : Int))), (5, .int (iI (((kxF (bhW G S M (posT.getD po [])) j) : Nat) : Int))), (0, .ref (ad 0)), (1, .int (iI (po : Int)))]) dX7_knows_88 (by decide) rfl ?_
        rw [if_pos (by omega)] at kw9
        refine J.lvEq (lv2 := [(4, .int (iI (((kwF (bhW G S M (posT.getD po [])) (j + 1)) : Nat) : Int))), (2, .long (lN (B ||| 2 ^ ((bhW G S M (posT.getD po [])).getD j v0).1))), (8, .int (iI ((u7.2.2 : Nat) : Int))), (7, .int (iI (j : Int))), (6, .int (iI (((kfF (bhW G S M (posT.getD po [])) j) : Nat) : Int))), (5, .int (iI (((kxF (bhW G S M (posT.getD po [])) j) : Nat) : Int))), (0, .ref (ad 0)), (1, .int (iI (po : Int)))]) (by rw [kw9]; rfl) ?_
        refine j_aload_n F dX7_knows_90 rfl 6 rfl ?_
        refine j_getf F (ref := "CairnGameModel") (C := RX7) (T := TX7) (N := 27) (ci := 7) (index := 31) (v := .ref (ad 11)) (fun w h => (List.mem_cons_of_mem _ (List.mem_append_right _ h))) 0 rfl rfl 11 (by decide) (List.mem_cons_of_mem _ (List.mem_append_left _ (List.mem_append_left _ (List.mem_of_getElem? (l := wsX7_knows_r1) (i := 3) rfl)))) rfl rfl dX7_knows_91 ?_
        refine j_iload F dX7_knows_94 2 rfl ?_
        refine j_iald F 8 (n := 272) (f := cT.2.2.2.2.2.1) rfl u7.2.2 (by omega) (by omega) (by decide) dX7_knows_96 ?_
        refine J.top (congrArg iI (show cT.2.2.2.2.2.1 u7.2.2 = ((((bhW G S M (posT.getD po [])).getD j v0).2.2.1 : Nat) : Int) from t3)) ?_
        refine j_iconst F dX7_knows_97 ?_
        refine j_iadd F dX7_knows_98 ?_
        refine j_iload F dX7_knows_99 5 rfl ?_
        refine j_icmp_le F (tgt := 116) dX7_knows_101 (by decide) ⟨(by unfold rg; omega), (by unfold rg; omega)⟩ (fun c101 => ?_) (fun c101 => ?_)
        · refine j_iload F dX7_knows_116 5 rfl ?_
          refine j_istore F (lv' := [(5, .int (iI (((kxF (bhW G S M (posT.getD po [])) j) : Nat) : Int))), (4, .int (iI (((kwF (bhW G S M (posT.getD po [])) (j + 1)) : Nat) : Int))), (2, .long (lN (B ||| 2 ^ ((bhW G S M (posT.getD po [])).getD j v0).1))), (8, .int (iI ((u7.2.2 : Nat) : Int))), (7, .int (iI (j : Int))), (6, .int (iI (((kfF (bhW G S M (posT.getD po [])) j) : Nat) : Int))), (0, .ref (ad 0)), (1, .int (iI (po : Int)))]) dX7_knows_118 (by decide) rfl ?_
          rw [show max (kxF (bhW G S M (posT.getD po [])) j) (((bhW G S M (posT.getD po [])).getD j v0).2.2.1 + 1) = kxF (bhW G S M (posT.getD po [])) j by omega] at kx9
          refine J.lvEq (lv2 := [(5, .int (iI (((kxF (bhW G S M (posT.getD po [])) (j + 1)) : Nat) : Int))), (4, .int (iI (((kwF (bhW G S M (posT.getD po [])) (j + 1)) : Nat) : Int))), (2, .long (lN (B ||| 2 ^ ((bhW G S M (posT.getD po [])).getD j v0).1))), (8, .int (iI ((u7.2.2 : Nat) : Int))), (7, .int (iI (j : Int))), (6, .int (iI (((kfF (bhW G S M (posT.getD po [])) j) : Nat) : Int))), (0, .ref (ad 0)), (1, .int (iI (po : Int)))]) (by rw [kx9]) ?_
          refine j_aload_n F dX7_knows_120 rfl 6 rfl ?_
          refine j_getf F (ref := "CairnGameModel") (C := RX7) (T := TX7) (N := 27) (ci := 7) (index := 34) (v := .ref (ad 12)) (fun w h => (List.mem_cons_of_mem _ (List.mem_append_right _ h))) 0 rfl rfl 12 (by decide) (List.mem_cons_of_mem _ (List.mem_append_left _ (List.mem_append_left _ (List.mem_of_getElem? (l := wsX7_knows_r1) (i := 4) rfl)))) rfl rfl dX7_knows_121 ?_
          refine j_iload F dX7_knows_124 3 rfl ?_
          refine j_iald F 9 (n := 272) (f := cT.2.2.2.2.2.2.1) rfl u7.2.2 (by omega) (by omega) (by decide) dX7_knows_126 ?_
          refine J.top (congrArg iI (show cT.2.2.2.2.2.2.1 u7.2.2 = ((((bhW G S M (posT.getD po [])).getD j v0).2.2.2 : Nat) : Int) from t4)) ?_
          refine j_iconst F dX7_knows_127 ?_
          refine j_iadd F dX7_knows_128 ?_
          refine j_iload F dX7_knows_129 5 rfl ?_
          refine j_icmp_ge F (tgt := 146) dX7_knows_131 (by decide) ⟨(by unfold rg; omega), (by unfold rg; omega)⟩ (fun c131 => ?_) (fun c131 => ?_)
          · refine j_iload F dX7_knows_146 5 rfl ?_
            refine j_istore F (lv' := [(6, .int (iI (((kfF (bhW G S M (posT.getD po [])) j) : Nat) : Int))), (5, .int (iI (((kxF (bhW G S M (posT.getD po [])) (j + 1)) : Nat) : Int))), (4, .int (iI (((kwF (bhW G S M (posT.getD po [])) (j + 1)) : Nat) : Int))), (2, .long (lN (B ||| 2 ^ ((bhW G S M (posT.getD po [])).getD j v0).1))), (8, .int (iI ((u7.2.2 : Nat) : Int))), (7, .int (iI (j : Int))), (0, .ref (ad 0)), (1, .int (iI (po : Int)))]) dX7_knows_148 (by decide) rfl ?_
            rw [show min (kfF (bhW G S M (posT.getD po [])) j) (((bhW G S M (posT.getD po [])).getD j v0).2.2.2 + 1) = kfF (bhW G S M (posT.getD po [])) j by omega] at kf9
            refine J.lvEq (lv2 := [(6, .int (iI (((kfF (bhW G S M (posT.getD po [])) (j + 1)) : Nat) : Int))), (5, .int (iI (((kxF (bhW G S M (posT.getD po [])) (j + 1)) : Nat) : Int))), (4, .int (iI (((kwF (bhW G S M (posT.getD po [])) (j + 1)) : Nat) : Int))), (2, .long (lN (B ||| 2 ^ ((bhW G S M (posT.getD po [])).getD j v0).1))), (8, .int (iI ((u7.2.2 : Nat) : Int))), (7, .int (iI (j : Int))), (0, .ref (ad 0)), (1, .int (iI (po : Int)))]) (by rw [kf9]) ?_
            refine j_iinc F (lv' := [(7, .int (iI ((j : Int) + 1))), (6, .int (iI (((kfF (bhW G S M (posT.getD po [])) (j + 1)) : Nat) : Int))), (5, .int (iI (((kxF (bhW G S M (posT.getD po [])) (j + 1)) : Nat) : Int))), (4, .int (iI (((kwF (bhW G S M (posT.getD po [])) (j + 1)) : Nat) : Int))), (2, .long (lN (B ||| 2 ^ ((bhW G S M (posT.getD po [])).getD j v0).1))), (8, .int (iI ((u7.2.2 : Nat) : Int))), (0, .ref (ad 0)), (1, .int (iI (po : Int)))]) dX7_knows_150 5 rfl (by decide) rfl ?_
            refine j_goto F (tgt := 43) dX7_knows_153 (by decide) ?_
            refine J.loc [0, 1, 2, 3, 4, 6, 7] rfl ?_
            exact ih43 ((j + 1), (B ||| 2 ^ ((bhW G S M (posT.getD po [])).getD j v0).1), u7.1, u7.2.1) (by show bagI (bhW G S M (posT.getD po [])) (j + 1) (B ||| 2 ^ ((bhW G S M (posT.getD po [])).getD j v0).1) ((wnL ((bhW G S M (posT.getD po [])).take (j + 1)) : Nat) : Int); exact bag_w hI hjv (by omega)) (by show (bhW G S M (posT.getD po [])).length - (j + 1) < (bhW G S M (posT.getD po [])).length - j; omega)
          · refine j_aload_n F dX7_knows_134 rfl 6 rfl ?_
            refine j_getf F (ref := "CairnGameModel") (C := RX7) (T := TX7) (N := 27) (ci := 7) (index := 34) (v := .ref (ad 12)) (fun w h => (List.mem_cons_of_mem _ (List.mem_append_right _ h))) 0 rfl rfl 12 (by decide) (List.mem_cons_of_mem _ (List.mem_append_left _ (List.mem_append_left _ (List.mem_of_getElem? (l := wsX7_knows_r1) (i := 4) rfl)))) rfl rfl dX7_knows_135 ?_
            refine j_iload F dX7_knows_138 3 rfl ?_
            refine j_iald F 9 (n := 272) (f := cT.2.2.2.2.2.2.1) rfl u7.2.2 (by omega) (by omega) (by decide) dX7_knows_140 ?_
            refine J.top (congrArg iI (show cT.2.2.2.2.2.2.1 u7.2.2 = ((((bhW G S M (posT.getD po [])).getD j v0).2.2.2 : Nat) : Int) from t4)) ?_
            refine j_iconst F dX7_knows_141 ?_
            refine j_iadd F dX7_knows_142 ?_
            refine j_goto F (tgt := 148) dX7_knows_143 (by decide) ?_
            refine j_istore F (lv' := [(6, .int (iI (((((bhW G S M (posT.getD po [])).getD j v0).2.2.2 : Nat) : Int) + 1))), (5, .int (iI (((kxF (bhW G S M (posT.getD po [])) (j + 1)) : Nat) : Int))), (4, .int (iI (((kwF (bhW G S M (posT.getD po [])) (j + 1)) : Nat) : Int))), (2, .long (lN (B ||| 2 ^ ((bhW G S M (posT.getD po [])).getD j v0).1))), (8, .int (iI ((u7.2.2 : Nat) : Int))), (7, .int (iI (j : Int))), (0, .ref (ad 0)), (1, .int (iI (po : Int)))]) dX7_knows_148 (by decide) rfl ?_
            rw [show min (kfF (bhW G S M (posT.getD po [])) j) (((bhW G S M (posT.getD po [])).getD j v0).2.2.2 + 1) = ((bhW G S M (posT.getD po [])).getD j v0).2.2.2 + 1 by omega] at kf9
            refine J.lvEq (lv2 := [(6, .int (iI (((kfF (bhW G S M (posT.getD po [])) (j + 1)) : Nat) : Int))), (5, .int (iI (((kxF (bhW G S M (posT.getD po [])) (j + 1)) : Nat) : Int))), (4, .int (iI (((kwF (bhW G S M (posT.getD po [])) (j + 1)) : Nat) : Int))), (2, .long (lN (B ||| 2 ^ ((bhW G S M (posT.getD po [])).getD j v0).1))), (8, .int (iI ((u7.2.2 : Nat) : Int))), (7, .int (iI (j : Int))), (0, .ref (ad 0)), (1, .int (iI (po : Int)))]) (by rw [kf9]; rfl) ?_
            refine j_iinc F (lv' := [(7, .int (iI ((j : Int) + 1))), (6, .int (iI (((kfF (bhW G S M (posT.getD po [])) (j + 1)) : Nat) : Int))), (5, .int (iI (((kxF (bhW G S M (posT.getD po [])) (j + 1)) : Nat) : Int))), (4, .int (iI (((kwF (bhW G S M (posT.getD po [])) (j + 1)) : Nat) : Int))), (2, .long (lN (B ||| 2 ^ ((bhW G S M (posT.getD po [])).getD j v0).1))), (8, .int (iI ((u7.2.2 : Nat) : Int))), (0, .ref (ad 0)), (1, .int (iI (po : Int)))]) dX7_knows_150 5 rfl (by decide) rfl ?_
            refine j_goto F (tgt := 43) dX7_knows_153 (by decide) ?_
            refine J.loc [0, 1, 2, 3, 4, 6, 7] rfl ?_
            exact ih43 ((j + 1), (B ||| 2 ^ ((bhW G S M (posT.getD po [])).getD j v0).1), u7.1, u7.2.1) (by show bagI (bhW G S M (posT.getD po [])) (j + 1) (B ||| 2 ^ ((bhW G S M (posT.getD po [])).getD j v0).1) ((wnL ((bhW G S M (posT.getD po [])).take (j + 1)) : Nat) : Int); exact bag_w hI hjv (by omega)) (by show (bhW G S M (posT.getD po [])).length - (j + 1) < (bhW G S M (posT.getD po [])).length - j; omega)
        · refine j_aload_n F dX7_knows_104 rfl 6 rfl ?_
          refine j_getf F (ref := "CairnGameModel") (C := RX7) (T := TX7) (N := 27) (ci := 7) (index := 31) (v := .ref (ad 11)) (fun w h => (List.mem_cons_of_mem _ (List.mem_append_right _ h))) 0 rfl rfl 11 (by decide) (List.mem_cons_of_mem _ (List.mem_append_left _ (List.mem_append_left _ (List.mem_of_getElem? (l := wsX7_knows_r1) (i := 3) rfl)))) rfl rfl dX7_knows_105 ?_
          refine j_iload F dX7_knows_108 2 rfl ?_
          refine j_iald F 8 (n := 272) (f := cT.2.2.2.2.2.1) rfl u7.2.2 (by omega) (by omega) (by decide) dX7_knows_110 ?_
          refine J.top (congrArg iI (show cT.2.2.2.2.2.1 u7.2.2 = ((((bhW G S M (posT.getD po [])).getD j v0).2.2.1 : Nat) : Int) from t3)) ?_
          refine j_iconst F dX7_knows_111 ?_
          refine j_iadd F dX7_knows_112 ?_
          refine j_goto F (tgt := 118) dX7_knows_113 (by decide) ?_
          refine j_istore F (lv' := [(5, .int (iI (((((bhW G S M (posT.getD po [])).getD j v0).2.2.1 : Nat) : Int) + 1))), (4, .int (iI (((kwF (bhW G S M (posT.getD po [])) (j + 1)) : Nat) : Int))), (2, .long (lN (B ||| 2 ^ ((bhW G S M (posT.getD po [])).getD j v0).1))), (8, .int (iI ((u7.2.2 : Nat) : Int))), (7, .int (iI (j : Int))), (6, .int (iI (((kfF (bhW G S M (posT.getD po [])) j) : Nat) : Int))), (0, .ref (ad 0)), (1, .int (iI (po : Int)))]) dX7_knows_118 (by decide) rfl ?_
          rw [show max (kxF (bhW G S M (posT.getD po [])) j) (((bhW G S M (posT.getD po [])).getD j v0).2.2.1 + 1) = ((bhW G S M (posT.getD po [])).getD j v0).2.2.1 + 1 by omega] at kx9
          refine J.lvEq (lv2 := [(5, .int (iI (((kxF (bhW G S M (posT.getD po [])) (j + 1)) : Nat) : Int))), (4, .int (iI (((kwF (bhW G S M (posT.getD po [])) (j + 1)) : Nat) : Int))), (2, .long (lN (B ||| 2 ^ ((bhW G S M (posT.getD po [])).getD j v0).1))), (8, .int (iI ((u7.2.2 : Nat) : Int))), (7, .int (iI (j : Int))), (6, .int (iI (((kfF (bhW G S M (posT.getD po [])) j) : Nat) : Int))), (0, .ref (ad 0)), (1, .int (iI (po : Int)))]) (by rw [kx9]; rfl) ?_
          refine j_aload_n F dX7_knows_120 rfl 6 rfl ?_
          refine j_getf F (ref := "CairnGameModel") (C := RX7) (T := TX7) (N := 27) (ci := 7) (index := 34) (v := .ref (ad 12)) (fun w h => (List.mem_cons_of_mem _ (List.mem_append_right _ h))) 0 rfl rfl 12 (by decide) (List.mem_cons_of_mem _ (List.mem_append_left _ (List.mem_append_left _ (List.mem_of_getElem? (l := wsX7_knows_r1) (i := 4) rfl)))) rfl rfl dX7_knows_121 ?_
          refine j_iload F dX7_knows_124 3 rfl ?_
          refine j_iald F 9 (n := 272) (f := cT.2.2.2.2.2.2.1) rfl u7.2.2 (by omega) (by omega) (by decide) dX7_knows_126 ?_
          refine J.top (congrArg iI (show cT.2.2.2.2.2.2.1 u7.2.2 = ((((bhW G S M (posT.getD po [])).getD j v0).2.2.2 : Nat) : Int) from t4)) ?_
          refine j_iconst F dX7_knows_127 ?_
          refine j_iadd F dX7_knows_128 ?_
          refine j_iload F dX7_knows_129 5 rfl ?_
          refine j_icmp_ge F (tgt := 146) dX7_knows_131 (by decide) ⟨(by unfold rg; omega), (by unfold rg; omega)⟩ (fun c131 => ?_) (fun c131 => ?_)
          · refine j_iload F dX7_knows_146 5 rfl ?_
            refine j_istore F (lv' := [(6, .int (iI (((kfF (bhW G S M (posT.getD po [])) j) : Nat) : Int))), (5, .int (iI (((kxF (bhW G S M (posT.getD po [])) (j + 1)) : Nat) : Int))), (4, .int (iI (((kwF (bhW G S M (posT.getD po [])) (j + 1)) : Nat) : Int))), (2, .long (lN (B ||| 2 ^ ((bhW G S M (posT.getD po [])).getD j v0).1))), (8, .int (iI ((u7.2.2 : Nat) : Int))), (7, .int (iI (j : Int))), (0, .ref (ad 0)), (1, .int (iI (po : Int)))]) dX7_knows_148 (by decide) rfl ?_
            rw [show min (kfF (bhW G S M (posT.getD po [])) j) (((bhW G S M (posT.getD po [])).getD j v0).2.2.2 + 1) = kfF (bhW G S M (posT.getD po [])) j by omega] at kf9
            refine J.lvEq (lv2 := [(6, .int (iI (((kfF (bhW G S M (posT.getD po [])) (j + 1)) : Nat) : Int))), (5, .int (iI (((kxF (bhW G S M (posT.getD po [])) (j + 1)) : Nat) : Int))), (4, .int (iI (((kwF (bhW G S M (posT.getD po [])) (j + 1)) : Nat) : Int))), (2, .long (lN (B ||| 2 ^ ((bhW G S M (posT.getD po [])).getD j v0).1))), (8, .int (iI ((u7.2.2 : Nat) : Int))), (7, .int (iI (j : Int))), (0, .ref (ad 0)), (1, .int (iI (po : Int)))]) (by rw [kf9]) ?_
            refine j_iinc F (lv' := [(7, .int (iI ((j : Int) + 1))), (6, .int (iI (((kfF (bhW G S M (posT.getD po [])) (j + 1)) : Nat) : Int))), (5, .int (iI (((kxF (bhW G S M (posT.getD po [])) (j + 1)) : Nat) : Int))), (4, .int (iI (((kwF (bhW G S M (posT.getD po [])) (j + 1)) : Nat) : Int))), (2, .long (lN (B ||| 2 ^ ((bhW G S M (posT.getD po [])).getD j v0).1))), (8, .int (iI ((u7.2.2 : Nat) : Int))), (0, .ref (ad 0)), (1, .int (iI (po : Int)))]) dX7_knows_150 5 rfl (by decide) rfl ?_
            refine j_goto F (tgt := 43) dX7_knows_153 (by decide) ?_
            refine J.loc [0, 1, 2, 3, 4, 6, 7] rfl ?_
            exact ih43 ((j + 1), (B ||| 2 ^ ((bhW G S M (posT.getD po [])).getD j v0).1), u7.1, u7.2.1) (by show bagI (bhW G S M (posT.getD po [])) (j + 1) (B ||| 2 ^ ((bhW G S M (posT.getD po [])).getD j v0).1) ((wnL ((bhW G S M (posT.getD po [])).take (j + 1)) : Nat) : Int); exact bag_w hI hjv (by omega)) (by show (bhW G S M (posT.getD po [])).length - (j + 1) < (bhW G S M (posT.getD po [])).length - j; omega)
          · refine j_aload_n F dX7_knows_134 rfl 6 rfl ?_
            refine j_getf F (ref := "CairnGameModel") (C := RX7) (T := TX7) (N := 27) (ci := 7) (index := 34) (v := .ref (ad 12)) (fun w h => (List.mem_cons_of_mem _ (List.mem_append_right _ h))) 0 rfl rfl 12 (by decide) (List.mem_cons_of_mem _ (List.mem_append_left _ (List.mem_append_left _ (List.mem_of_getElem? (l := wsX7_knows_r1) (i := 4) rfl)))) rfl rfl dX7_knows_135 ?_
            refine j_iload F dX7_knows_138 3 rfl ?_
            refine j_iald F 9 (n := 272) (f := cT.2.2.2.2.2.2.1) rfl u7.2.2 (by omega) (by omega) (by decide) dX7_knows_140 ?_
            refine J.top (congrArg iI (show cT.2.2.2.2.2.2.1 u7.2.2 = ((((bhW G S M (posT.getD po [])).getD j v0).2.2.2 : Nat) : Int) from t4)) ?_
            refine j_iconst F dX7_knows_141 ?_
            refine j_iadd F dX7_knows_142 ?_
            refine j_goto F (tgt := 148) dX7_knows_143 (by decide) ?_
            refine j_istore F (lv' := [(6, .int (iI (((((bhW G S M (posT.getD po [])).getD j v0).2.2.2 : Nat) : Int) + 1))), (5, .int (iI (((kxF (bhW G S M (posT.getD po [])) (j + 1)) : Nat) : Int))), (4, .int (iI (((kwF (bhW G S M (posT.getD po [])) (j + 1)) : Nat) : Int))), (2, .long (lN (B ||| 2 ^ ((bhW G S M (posT.getD po [])).getD j v0).1))), (8, .int (iI ((u7.2.2 : Nat) : Int))), (7, .int (iI (j : Int))), (0, .ref (ad 0)), (1, .int (iI (po : Int)))]) dX7_knows_148 (by decide) rfl ?_
            rw [show min (kfF (bhW G S M (posT.getD po [])) j) (((bhW G S M (posT.getD po [])).getD j v0).2.2.2 + 1) = ((bhW G S M (posT.getD po [])).getD j v0).2.2.2 + 1 by omega] at kf9
            refine J.lvEq (lv2 := [(6, .int (iI (((kfF (bhW G S M (posT.getD po [])) (j + 1)) : Nat) : Int))), (5, .int (iI (((kxF (bhW G S M (posT.getD po [])) (j + 1)) : Nat) : Int))), (4, .int (iI (((kwF (bhW G S M (posT.getD po [])) (j + 1)) : Nat) : Int))), (2, .long (lN (B ||| 2 ^ ((bhW G S M (posT.getD po [])).getD j v0).1))), (8, .int (iI ((u7.2.2 : Nat) : Int))), (7, .int (iI (j : Int))), (0, .ref (ad 0)), (1, .int (iI (po : Int)))]) (by rw [kf9]; rfl) ?_
            refine j_iinc F (lv' := [(7, .int (iI ((j : Int) + 1))), (6, .int (iI (((kfF (bhW G S M (posT.getD po [])) (j + 1)) : Nat) : Int))), (5, .int (iI (((kxF (bhW G S M (posT.getD po [])) (j + 1)) : Nat) : Int))), (4, .int (iI (((kwF (bhW G S M (posT.getD po [])) (j + 1)) : Nat) : Int))), (2, .long (lN (B ||| 2 ^ ((bhW G S M (posT.getD po [])).getD j v0).1))), (8, .int (iI ((u7.2.2 : Nat) : Int))), (0, .ref (ad 0)), (1, .int (iI (po : Int)))]) dX7_knows_150 5 rfl (by decide) rfl ?_
            refine j_goto F (tgt := 43) dX7_knows_153 (by decide) ?_
            refine J.loc [0, 1, 2, 3, 4, 6, 7] rfl ?_
            exact ih43 ((j + 1), (B ||| 2 ^ ((bhW G S M (posT.getD po [])).getD j v0).1), u7.1, u7.2.1) (by show bagI (bhW G S M (posT.getD po [])) (j + 1) (B ||| 2 ^ ((bhW G S M (posT.getD po [])).getD j v0).1) ((wnL ((bhW G S M (posT.getD po [])).take (j + 1)) : Nat) : Int); exact bag_w hI hjv (by omega)) (by show (bhW G S M (posT.getD po [])).length - (j + 1) < (bhW G S M (posT.getD po [])).length - j; omega)

theorem tab_s {G S M : Nat} {T : TT} {p : Nat} (h : tabR G S M T p) : tabR G S M (T.1, T.2.1, T.2.2.1, (nup T.2.2.2.1 p (((val G S M (posT.getD p [])).1 : Nat) : Int)), (nup T.2.2.2.2.1 p (((val G S M (posT.getD p [])).2.1 : Nat) : Int)), (nup T.2.2.2.2.2.1 p (((val G S M (posT.getD p [])).2.2.1 : Nat) : Int)), (nup T.2.2.2.2.2.2.1 p (((val G S M (posT.getD p [])).2.2.2 : Nat) : Int)), T.2.2.2.2.2.2.2) (p + 1) := by
  intro q hq
  dsimp only
  by_cases w : q = p
  · subst w
    rw [nup_s, nup_s, nup_s, nup_s]
    exact ⟨rfl, rfl, rfl, rfl⟩
  · rw [nup_n _ _ w, nup_n _ _ w, nup_n _ _ w, nup_n _ _ w]
    exact h q (by omega)
def rlN (G S M : Nat) : Nat := 100 * G + 10 * S + M
/-- the table holds for the rules that it names -/
def tabS (T : TT) : Prop := posR T ∧ (0 ≤ T.2.2.2.2.2.2.2 ∧ T.2.2.2.2.2.2.2 ≤ 1000) ∧ ∀ G S M, 1 ≤ G → S ≤ 1 → M ≤ 1 → T.2.2.2.2.2.2.2 = ((rlN G S M : Nat) : Int) → tabR G S M T 272
/-- the table holds for these rules -/
def tabT (G S M : Nat) (T : TT) : Prop := posR T ∧ T.2.2.2.2.2.2.2 = ((rlN G S M : Nat) : Int) ∧ tabR G S M T 272
theorem tabT_S {G S M : Nat} {T : TT} (hG : G ≤ 5) (hS : S ≤ 1) (hM : M ≤ 1) (h : tabT G S M T) : tabS T := by
  obtain ⟨h1, h2, h3⟩ := h
  refine ⟨h1, by rw [h2]; unfold rlN; omega, fun G' S' M' a b c e => ?_⟩
  rw [h2] at e
  unfold rlN at e
  obtain ⟨rfl, rfl, rfl⟩ : G = G' ∧ S = S' ∧ M = M' := by omega
  exact h3

theorem rl_b {G S M : Nat} (hG : 1 ≤ G ∧ G ≤ 5) (hS : S ≤ 1) (hM : M ≤ 1) : rlN G S M ≤ 511 ∧ 100 ≤ rlN G S M := by unfold rlN; omega

set_option maxHeartbeats 1000000 in
set_option maxRecDepth 100000 in
theorem c_X7_learns {l : Launch} (hfl : l.flags = flags0) (D : va_G) (g : GT) (z : ZT) (ad : Nat → Nat) (th : Int) (cC : CT) (cT : TT) (cL : LT) (cP : PT) (L1 : List Nat) (G S M Nn : Nat) (c3 : C3) (hT : tabS cT) (hG : 1 ≤ G ∧ G ≤ 5) (hS : S ≤ 1) (hM : M ≤ 1) (hN : Nn ≤ 1) (hst : stM cC.1 L1 G S M Nn c3) : CV l yX7_learns wsX7_learns 5 118 0 D g z [.ref (ad 0)] (moC g ad th cC cT cL cP) (fun (u9 : TT × LT) => tabT G S M u9.1) (fun (u9 : TT × LT) => moC g ad th cC (u9.1.1, u9.1.2.1, u9.1.2.2.1, u9.1.2.2.2.1, u9.1.2.2.2.2.1, u9.1.2.2.2.2.2.1, u9.1.2.2.2.2.2.2.1, u9.1.2.2.2.2.2.2.2) (u9.2.1, u9.2.2.1, u9.2.2.2.1, u9.2.2.2.2.1, u9.2.2.2.2.2.1, u9.2.2.2.2.2.2.1, u9.2.2.2.2.2.2.2.1, u9.2.2.2.2.2.2.2.2) cP) 0 0 := by
  refine CV_of hfl (own := RX7) ⟨4, 0, 0, 96⟩ 5 118 0 (by decide +kernel) rfl rfl ⟨by decide, by decide, by decide +kernel⟩ ⟨by decide, by decide⟩ (le_ble rfl) ?_
  intro p e s m below meth c A Q F hin ret
  change J p l e _ s m _ below meth c A D _ Q 0 0 (moC g ad th cC cT cL cP) [(0, .ref (ad 0))] [] 0
  have h9r := rl_b hG hS hM
  refine j_bipush F dX7_learns_0 (by decide) ?_
  refine j_aload_n F dX7_learns_2 rfl 0 rfl ?_
  refine j_getf F (ref := "CairnGameModel") (C := RX7) (T := TX7) (N := 27) (ci := 7) (index := 7) (v := .ref (ad 1)) (fun w h => (List.mem_cons_of_mem _ (List.mem_append_right _ h))) 0 rfl rfl 1 (by decide) (List.mem_cons_of_mem _ (List.mem_append_left _ (List.mem_append_left _ (List.mem_of_getElem? (l := wsX7_learns_r1) (i := 0) rfl)))) rfl rfl dX7_learns_3 ?_
  refine j_iconst F dX7_learns_6 ?_
  refine j_iald F 1 (n := 20) (f := cC.1) rfl 0 (by decide) (by decide) (by decide) dX7_learns_7 ?_
  refine J.top (congrArg iI (show cC.1 0 = (G : Int) from hst.1)) ?_
  refine j_imul F dX7_learns_8 ?_
  refine j_bipush F dX7_learns_9 (by decide) ?_
  refine j_aload_n F dX7_learns_11 rfl 0 rfl ?_
  refine j_getf F (ref := "CairnGameModel") (C := RX7) (T := TX7) (N := 27) (ci := 7) (index := 7) (v := .ref (ad 1)) (fun w h => (List.mem_cons_of_mem _ (List.mem_append_right _ h))) 0 rfl rfl 1 (by decide) (List.mem_cons_of_mem _ (List.mem_append_left _ (List.mem_append_left _ (List.mem_of_getElem? (l := wsX7_learns_r1) (i := 0) rfl)))) rfl rfl dX7_learns_12 ?_
  refine j_iconst F dX7_learns_15 ?_
  refine j_iald F 1 (n := 20) (f := cC.1) rfl 1 (by decide) (by decide) (by decide) dX7_learns_16 ?_
  refine J.top (congrArg iI (show cC.1 1 = (S : Int) from hst.2.1)) ?_
  refine j_imul F dX7_learns_17 ?_
  refine j_iadd F dX7_learns_18 ?_
  refine j_aload_n F dX7_learns_19 rfl 0 rfl ?_
  refine j_getf F (ref := "CairnGameModel") (C := RX7) (T := TX7) (N := 27) (ci := 7) (index := 7) (v := .ref (ad 1)) (fun w h => (List.mem_cons_of_mem _ (List.mem_append_right _ h))) 0 rfl rfl 1 (by decide) (List.mem_cons_of_mem _ (List.mem_append_left _ (List.mem_append_left _ (List.mem_of_getElem? (l := wsX7_learns_r1) (i := 0) rfl)))) rfl rfl dX7_learns_20 ?_
  refine j_iconst F dX7_learns_23 ?_
  refine j_iald F 1 (n := 20) (f := cC.1) rfl 2 (by decide) (by decide) (by decide) dX7_learns_24 ?_
  refine J.top (congrArg iI (show cC.1 2 = (M : Int) from hst.2.2.1)) ?_
  refine j_iadd F dX7_learns_25 ?_
  refine J.top (congrArg iI (show (((100 * (G : Int)) + (10 * (S : Int))) + (M : Int)) = (((rlN G S M) : Nat) : Int) from by unfold rlN; omega)) ?_
  refine j_istore_n F (lv' := [(1, .int (iI (((rlN G S M) : Nat) : Int))), (0, .ref (ad 0))]) dX7_learns_26 rfl (by decide) rfl ?_
  refine j_iconst F dX7_learns_27 ?_
  refine j_istore_n F (lv' := [(2, .int (iI 0)), (1, .int (iI (((rlN G S M) : Nat) : Int))), (0, .ref (ad 0))]) dX7_learns_28 rfl (by decide) rfl ?_
  refine J.loc [0, 1, 2] rfl ?_
  refine J_loop (σ := Nat × TT × LT) (fun x9 : Nat × TT × LT => match x9 with | (k, t, x) => k ≤ 272 ∧ posR t ∧ t.2.2.2.2.2.2.2 = cT.2.2.2.2.2.2.2 ∧ tabR G S M t k ∧ (k = 0 → t = cT) ∧ (k = 0 ∨ ¬ cT.2.2.2.2.2.2.2 = ((rlN G S M : Nat) : Int))) (fun x9 : Nat × TT × LT => match x9 with | (k, t, x) => 272 - k) (fun x9 : Nat × TT × LT => match x9 with | (k, t, x) => moC g ad th cC t x cP) (fun x9 : Nat × TT × LT => match x9 with | (k, t, x) => [(2, .int (iI (k : Int))), (1, .int (iI (((rlN G S M) : Nat) : Int))), (0, .ref (ad 0))]) (0, cT, cL) (by show 0 ≤ 272 ∧ posR cT ∧ cT.2.2.2.2.2.2.2 = cT.2.2.2.2.2.2.2 ∧ tabR G S M cT 0 ∧ (0 = 0 → cT = cT) ∧ (0 = 0 ∨ ¬ cT.2.2.2.2.2.2.2 = ((rlN G S M : Nat) : Int)); exact ⟨Nat.zero_le _, hT.1, rfl, fun p hp => absurd hp (Nat.not_lt_zero p), fun _ => rfl, Or.inl rfl⟩) ?_
  rintro ⟨k, t, x⟩ hI ih29
  have hI : k ≤ 272 ∧ posR t ∧ t.2.2.2.2.2.2.2 = cT.2.2.2.2.2.2.2 ∧ tabR G S M t k ∧ (k = 0 → t = cT) ∧ (k = 0 ∨ ¬ cT.2.2.2.2.2.2.2 = ((rlN G S M : Nat) : Int)) := hI
  obtain ⟨i1, i2, i3, i4, i5, i6⟩ := hI
  have i3r : 0 ≤ t.2.2.2.2.2.2.2 ∧ t.2.2.2.2.2.2.2 ≤ 1000 := by rw [i3]; exact hT.2.1
  refine j_iload_n F dX7_learns_29 rfl 0 rfl ?_
  refine j_aload_n F dX7_learns_30 rfl 2 rfl ?_
  refine j_getf F (ref := "CairnGameModel") (C := RX7) (T := TX7) (N := 27) (ci := 7) (index := 52) (v := .int (iI t.2.2.1)) (fun w h => (List.mem_cons_of_mem _ (List.mem_append_right _ h))) 0 rfl rfl 8 (by decide) (List.mem_cons_of_mem _ (List.mem_append_left _ (List.mem_append_left _ (List.mem_of_getElem? (l := wsX7_learns_r1) (i := 1) rfl)))) rfl rfl dX7_learns_31 ?_
  refine J.top (congrArg iI (show t.2.2.1 = 272 from i2.2.2)) ?_
  refine j_icmp_ge F (tgt := 56) dX7_learns_34 (by decide) ⟨(by unfold rg; omega), (by unfold rg; omega)⟩ (fun c34 => ?_) (fun c34 => ?_)
  · have ek : k = 272 := by omega
    have hF : tabR G S M t 272 := by rw [← ek]; exact i4
    refine j_aload_n F dX7_learns_56 rfl 2 rfl ?_
    refine j_iload_n F dX7_learns_57 rfl 1 rfl ?_
    refine j_putf F (ref := "CairnGameModel") (C := RX7) (T := TX7) (N := 27) (ci := 7) (index := 104) (ty := .int) (ws' := moC g ad th cC (t.1, t.2.1, t.2.2.1, t.2.2.2.1, t.2.2.2.2.1, t.2.2.2.2.2.1, t.2.2.2.2.2.2.1, (((rlN G S M) : Nat) : Int)) x cP) (fun w h => (List.mem_cons_of_mem _ (List.mem_append_right _ h))) tyX7 tyX7_ok nmX7 0 rfl rfl 13 (by decide) (List.mem_cons_of_mem _ (List.mem_append_left _ (List.mem_append_left _ (List.mem_of_getElem? (l := wsX7_learns_r1) (i := 2) rfl)))) rfl rfl rfl rfl rfl (lt_ble rfl) rfl dX7_learns_58 ?_
    exact ret ((t.1, t.2.1, t.2.2.1, t.2.2.2.1, t.2.2.2.2.1, t.2.2.2.2.2.1, t.2.2.2.2.2.2.1, ((rlN G S M : Nat) : Int)), x) 0 0 _ _ dX7_learns_61 (by decide) (by decide) (⟨i2, rfl, hF⟩)
  · refine j_iload_n F dX7_learns_37 rfl 1 rfl ?_
    refine j_aload_n F dX7_learns_38 rfl 2 rfl ?_
    refine j_getf F (ref := "CairnGameModel") (C := RX7) (T := TX7) (N := 27) (ci := 7) (index := 104) (v := .int (iI t.2.2.2.2.2.2.2)) (fun w h => (List.mem_cons_of_mem _ (List.mem_append_right _ h))) 0 rfl rfl 13 (by decide) (List.mem_cons_of_mem _ (List.mem_append_left _ (List.mem_append_left _ (List.mem_of_getElem? (l := wsX7_learns_r1) (i := 2) rfl)))) rfl rfl dX7_learns_39 ?_
    refine j_icmp_eq F (tgt := 56) dX7_learns_42 (by decide) ⟨(by have h9 := rl_b hG hS hM; unfold rg; omega), (by have h9 := rl_b hG hS hM; unfold rg; omega)⟩ (fun c42 => ?_) (fun c42 => ?_)
    · have hF : tabR G S M t 272 := by rcases i6 with w | w; (rw [i5 w]; exact hT.2.2 G S M hG.1 hS hM (by rw [← i3]; exact c42.symm)); exact absurd (by rw [← i3]; exact c42.symm) w
      refine j_aload_n F dX7_learns_56 rfl 2 rfl ?_
      refine j_iload_n F dX7_learns_57 rfl 1 rfl ?_
      refine j_putf F (ref := "CairnGameModel") (C := RX7) (T := TX7) (N := 27) (ci := 7) (index := 104) (ty := .int) (ws' := moC g ad th cC (t.1, t.2.1, t.2.2.1, t.2.2.2.1, t.2.2.2.2.1, t.2.2.2.2.2.1, t.2.2.2.2.2.2.1, (((rlN G S M) : Nat) : Int)) x cP) (fun w h => (List.mem_cons_of_mem _ (List.mem_append_right _ h))) tyX7 tyX7_ok nmX7 0 rfl rfl 13 (by decide) (List.mem_cons_of_mem _ (List.mem_append_left _ (List.mem_append_left _ (List.mem_of_getElem? (l := wsX7_learns_r1) (i := 2) rfl)))) rfl rfl rfl rfl rfl (lt_ble rfl) rfl dX7_learns_58 ?_
      exact ret ((t.1, t.2.1, t.2.2.1, t.2.2.2.1, t.2.2.2.2.1, t.2.2.2.2.2.1, t.2.2.2.2.2.2.1, ((rlN G S M : Nat) : Int)), x) 0 0 _ _ dX7_learns_61 (by decide) (by decide) (⟨i2, rfl, hF⟩)
    · refine j_aload_n F dX7_learns_45 rfl 2 rfl ?_
      refine j_iload_n F dX7_learns_46 rfl 0 rfl ?_
      refine j_callV_V F (As := [.int (iI (k : Int))]) (wr := []) (st := []) (c_X7_knows hfl D g z ad th cC t x cP L1 G S M Nn c3 k (by omega) i2 hG hS hM hN hst i4) (idx := 107) (C := RX7) gX7_learns_X7_knows rfl rfl [0, 1, 2, 3, 4, 5, 6, 7, 8, 9, 10, 11, 12, 13, 14] [] rfl rfl (by decide) (by decide) (by decide) (ci := 7) (q0 := 0) rfl rfl (by decide) (by decide) (le_ble rfl) ⟨by decide, by decide⟩ dX7_learns_47 ?_
      rintro u8 h8
      refine J.wsEq (ws2 := moC g ad th cC (t.1, t.2.1, t.2.2.1, (nup t.2.2.2.1 k (((val G S M (posT.getD k [])).1 : Nat) : Int)), (nup t.2.2.2.2.1 k (((val G S M (posT.getD k [])).2.1 : Nat) : Int)), (nup t.2.2.2.2.2.1 k (((val G S M (posT.getD k [])).2.2.1 : Nat) : Int)), (nup t.2.2.2.2.2.2.1 k (((val G S M (posT.getD k [])).2.2.2 : Nat) : Int)), t.2.2.2.2.2.2.2) u8 cP) rfl ?_
      refine j_iinc F (lv' := [(2, .int (iI ((k : Int) + 1))), (1, .int (iI (((rlN G S M) : Nat) : Int))), (0, .ref (ad 0))]) dX7_learns_50 0 rfl (by decide) rfl ?_
      refine j_goto F (tgt := 29) dX7_learns_53 (by decide) ?_
      refine J.loc [0, 1, 2] rfl ?_
      exact ih29 ((k + 1), (t.1, t.2.1, t.2.2.1, (nup t.2.2.2.1 k (((val G S M (posT.getD k [])).1 : Nat) : Int)), (nup t.2.2.2.2.1 k (((val G S M (posT.getD k [])).2.1 : Nat) : Int)), (nup t.2.2.2.2.2.1 k (((val G S M (posT.getD k [])).2.2.1 : Nat) : Int)), (nup t.2.2.2.2.2.2.1 k (((val G S M (posT.getD k [])).2.2.2 : Nat) : Int)), t.2.2.2.2.2.2.2), u8) (by show (k + 1) ≤ 272 ∧ posR (t.1, t.2.1, t.2.2.1, (nup t.2.2.2.1 k (((val G S M (posT.getD k [])).1 : Nat) : Int)), (nup t.2.2.2.2.1 k (((val G S M (posT.getD k [])).2.1 : Nat) : Int)), (nup t.2.2.2.2.2.1 k (((val G S M (posT.getD k [])).2.2.1 : Nat) : Int)), (nup t.2.2.2.2.2.2.1 k (((val G S M (posT.getD k [])).2.2.2 : Nat) : Int)), t.2.2.2.2.2.2.2) ∧ (t.1, t.2.1, t.2.2.1, (nup t.2.2.2.1 k (((val G S M (posT.getD k [])).1 : Nat) : Int)), (nup t.2.2.2.2.1 k (((val G S M (posT.getD k [])).2.1 : Nat) : Int)), (nup t.2.2.2.2.2.1 k (((val G S M (posT.getD k [])).2.2.1 : Nat) : Int)), (nup t.2.2.2.2.2.2.1 k (((val G S M (posT.getD k [])).2.2.2 : Nat) : Int)), t.2.2.2.2.2.2.2).2.2.2.2.2.2.2 = cT.2.2.2.2.2.2.2 ∧ tabR G S M (t.1, t.2.1, t.2.2.1, (nup t.2.2.2.1 k (((val G S M (posT.getD k [])).1 : Nat) : Int)), (nup t.2.2.2.2.1 k (((val G S M (posT.getD k [])).2.1 : Nat) : Int)), (nup t.2.2.2.2.2.1 k (((val G S M (posT.getD k [])).2.2.1 : Nat) : Int)), (nup t.2.2.2.2.2.2.1 k (((val G S M (posT.getD k [])).2.2.2 : Nat) : Int)), t.2.2.2.2.2.2.2) (k + 1) ∧ ((k + 1) = 0 → (t.1, t.2.1, t.2.2.1, (nup t.2.2.2.1 k (((val G S M (posT.getD k [])).1 : Nat) : Int)), (nup t.2.2.2.2.1 k (((val G S M (posT.getD k [])).2.1 : Nat) : Int)), (nup t.2.2.2.2.2.1 k (((val G S M (posT.getD k [])).2.2.1 : Nat) : Int)), (nup t.2.2.2.2.2.2.1 k (((val G S M (posT.getD k [])).2.2.2 : Nat) : Int)), t.2.2.2.2.2.2.2) = cT) ∧ ((k + 1) = 0 ∨ ¬ cT.2.2.2.2.2.2.2 = ((rlN G S M : Nat) : Int)); exact ⟨by omega, i2, i3, tab_s i4, fun w => absurd w (Nat.succ_ne_zero k), Or.inr (by rw [i3] at c42; exact fun w => c42 w.symm)⟩) (by show 272 - (k + 1) < 272 - k; omega)

set_option maxHeartbeats 1000000 in
set_option maxRecDepth 100000 in
theorem c_X7_looks {l : Launch} (hfl : l.flags = flags0) (D : va_G) (g : GT) (z : ZT) (ad : Nat → Nat) (th : Int) (cC : CT) (cT : TT) (cL : LT) (cP : PT) (H : List Nat) (G S M Nn : Nat) (c3 : C3) (hT : tabS cT) (hH : okH H) (hG : 1 ≤ G ∧ G ≤ 5) (hS : S ≤ 1) (hM : M ≤ 1) (hN : Nn ≤ 1) (hst : stM cC.1 H G S M Nn c3) : CI l yX7_looks wsX7_looks 6 139 0 D g z [.ref (ad 0)] (moC g ad th cC cT cL cP) (fun (r9 : Int32) (u9 : TT × NF × NF × NF × NF × NF × Nat) => r9 = iI ((u9.2.2.2.2.2.2 : Nat) : Int) ∧ u9.2.2.2.2.2.2 < 272 ∧ posT.getD u9.2.2.2.2.2.2 [] = sortL H ∧ tabT G S M u9.1 ∧ rep u9.2.1 H ∧ mrep3 (mvL G S M H) u9.2.2.1 u9.2.2.2.1 u9.2.2.2.2.1 ∧ bhR u9.2.2.2.2.2.1 (sortL H)) (fun (u9 : TT × NF × NF × NF × NF × NF × Nat) => moC g ad th cC (u9.1.1, u9.1.2.1, u9.1.2.2.1, u9.1.2.2.2.1, u9.1.2.2.2.2.1, u9.1.2.2.2.2.2.1, u9.1.2.2.2.2.2.2.1, u9.1.2.2.2.2.2.2.2) (u9.2.1, ((H.length : Nat) : Int), u9.2.2.1, u9.2.2.2.1, u9.2.2.2.2.1, (((mvL G S M H).length : Nat) : Int), u9.2.2.2.2.2.1, ((H.length : Nat) : Int)) cP) 0 0 := by
  refine CI_of hfl (own := RX7) ⟨5, 0, 0, 118⟩ 6 139 0 (by decide +kernel) rfl rfl ⟨by decide, by decide, by decide +kernel⟩ ⟨by decide, by decide⟩ (le_ble rfl) (fun _ _ _ => rfl) ?_
  intro p e s m below meth c A Q F ret
  change J p l e _ s m _ below meth c A D _ Q 0 0 (moC g ad th cC cT cL cP) [(0, .ref (ad 0))] [] 0
  have hlen := okH_len hH
  refine j_aload_n F dX7_looks_0 rfl 0 rfl ?_
  refine j_callV_V F (As := []) (wr := []) (st := []) (c_X7_learns hfl D g z ad th cC cT cL cP H G S M Nn c3 hT hG hS hM hN hst) (idx := 110) (C := RX7) gX7_looks_X7_learns rfl rfl [0, 1, 2, 3, 4, 5, 6, 7, 8, 9, 10, 11, 12, 13, 14] [] rfl rfl (by decide) (by decide) (by decide) (ci := 7) (q0 := 0) rfl rfl (by decide) (by decide) (le_ble rfl) ⟨by decide, by decide⟩ dX7_looks_1 ?_
  rintro u9 h9
  refine J.wsEq (ws2 := moC g ad th cC (u9.1.1, u9.1.2.1, u9.1.2.2.1, u9.1.2.2.2.1, u9.1.2.2.2.2.1, u9.1.2.2.2.2.2.1, u9.1.2.2.2.2.2.2.1, u9.1.2.2.2.2.2.2.2) (u9.2.1, u9.2.2.1, u9.2.2.2.1, u9.2.2.2.2.1, u9.2.2.2.2.2.1, u9.2.2.2.2.2.2.1, u9.2.2.2.2.2.2.2.1, u9.2.2.2.2.2.2.2.2) cP) rfl ?_
  refine j_aload_n F dX7_looks_4 rfl 0 rfl ?_
  refine j_aload_n F dX7_looks_5 rfl 0 rfl ?_
  refine j_getf F (ref := "CairnGameModel") (C := RX7) (T := TX7) (N := 27) (ci := 7) (index := 7) (v := .ref (ad 1)) (fun w h => (List.mem_cons_of_mem _ (List.mem_append_right _ h))) 0 rfl rfl 1 (by decide) (List.mem_cons_of_mem _ (List.mem_append_left _ (List.mem_append_left _ (List.mem_of_getElem? (l := wsX7_looks_r1) (i := 0) rfl)))) rfl rfl dX7_looks_6 ?_
  refine j_iconst F dX7_looks_9 ?_
  refine j_iald F 1 (n := 20) (f := cC.1) rfl 4 (by decide) (by decide) (by decide) dX7_looks_10 ?_
  refine J.top (congrArg iI (show cC.1 4 = ((H.length : Nat) : Int) from hst.2.2.2.2.1)) ?_
  refine j_putf F (ref := "CairnGameModel") (C := RX7) (T := TX7) (N := 27) (ci := 7) (index := 79) (ty := .int) (ws' := moC g ad th cC (u9.1.1, u9.1.2.1, u9.1.2.2.1, u9.1.2.2.2.1, u9.1.2.2.2.2.1, u9.1.2.2.2.2.2.1, u9.1.2.2.2.2.2.2.1, u9.1.2.2.2.2.2.2.2) (u9.2.1, ((H.length : Nat) : Int), u9.2.2.2.1, u9.2.2.2.2.1, u9.2.2.2.2.2.1, u9.2.2.2.2.2.2.1, u9.2.2.2.2.2.2.2.1, u9.2.2.2.2.2.2.2.2) cP) (fun w h => (List.mem_cons_of_mem _ (List.mem_append_right _ h))) tyX7 tyX7_ok nmX7 0 rfl rfl 15 (by decide) (List.mem_cons_of_mem _ (List.mem_append_left _ (List.mem_append_left _ (List.mem_of_getElem? (l := wsX7_looks_r1) (i := 1) rfl)))) rfl rfl rfl rfl rfl (lt_ble rfl) rfl dX7_looks_11 ?_
  refine j_aload_n F dX7_looks_14 rfl 0 rfl ?_
  refine j_aload_n F dX7_looks_15 rfl 0 rfl ?_
  refine j_getf F (ref := "CairnGameModel") (C := RX7) (T := TX7) (N := 27) (ci := 7) (index := 7) (v := .ref (ad 1)) (fun w h => (List.mem_cons_of_mem _ (List.mem_append_right _ h))) 0 rfl rfl 1 (by decide) (List.mem_cons_of_mem _ (List.mem_append_left _ (List.mem_append_left _ (List.mem_of_getElem? (l := wsX7_looks_r1) (i := 0) rfl)))) rfl rfl dX7_looks_16 ?_
  refine j_iconst F dX7_looks_19 ?_
  refine j_iald F 1 (n := 20) (f := cC.1) rfl 4 (by decide) (by decide) (by decide) dX7_looks_20 ?_
  refine J.top (congrArg iI (show cC.1 4 = ((H.length : Nat) : Int) from hst.2.2.2.2.1)) ?_
  refine j_putf F (ref := "CairnGameModel") (C := RX7) (T := TX7) (N := 27) (ci := 7) (index := 70) (ty := .int) (ws' := moC g ad th cC (u9.1.1, u9.1.2.1, u9.1.2.2.1, u9.1.2.2.2.1, u9.1.2.2.2.2.1, u9.1.2.2.2.2.2.1, u9.1.2.2.2.2.2.2.1, u9.1.2.2.2.2.2.2.2) (u9.2.1, ((H.length : Nat) : Int), u9.2.2.2.1, u9.2.2.2.2.1, u9.2.2.2.2.2.1, u9.2.2.2.2.2.2.1, u9.2.2.2.2.2.2.2.1, ((H.length : Nat) : Int)) cP) (fun w h => (List.mem_cons_of_mem _ (List.mem_append_right _ h))) tyX7 tyX7_ok nmX7 0 rfl rfl 21 (by decide) (List.mem_cons_of_mem _ (List.mem_append_left _ (List.mem_append_left _ (List.mem_of_getElem? (l := wsX7_looks_r1) (i := 2) rfl)))) rfl rfl rfl rfl rfl (lt_ble rfl) rfl dX7_looks_21 ?_
  refine j_iconst F dX7_looks_24 ?_
  refine j_istore_n F (lv' := [(1, .int (iI 0)), (0, .ref (ad 0))]) dX7_looks_25 rfl (by decide) rfl ?_
  refine J.loc [0, 1] rfl ?_
  refine J_loop (σ := Nat × NF × NF) (fun x9 : Nat × NF × NF => match x9 with | (k, f, b) => k ≤ H.length ∧ ∀ j, j < k → f j = ((H.getD j 0 : Nat) : Int) ∧ b j = ((H.getD j 0 : Nat) : Int)) (fun x9 : Nat × NF × NF => match x9 with | (k, f, b) => H.length - k) (fun x9 : Nat × NF × NF => match x9 with | (k, f, b) => moC g ad th cC (u9.1.1, u9.1.2.1, u9.1.2.2.1, u9.1.2.2.2.1, u9.1.2.2.2.2.1, u9.1.2.2.2.2.2.1, u9.1.2.2.2.2.2.2.1, u9.1.2.2.2.2.2.2.2) (f, ((H.length : Nat) : Int), u9.2.2.2.1, u9.2.2.2.2.1, u9.2.2.2.2.2.1, u9.2.2.2.2.2.2.1, b, ((H.length : Nat) : Int)) cP) (fun x9 : Nat × NF × NF => match x9 with | (k, f, b) => [(1, .int (iI (k : Int))), (0, .ref (ad 0))]) (0, u9.2.1, u9.2.2.2.2.2.2.2.1) (by show 0 ≤ H.length ∧ ∀ j, j < 0 → u9.2.1 j = ((H.getD j 0 : Nat) : Int) ∧ u9.2.2.2.2.2.2.2.1 j = ((H.getD j 0 : Nat) : Int); exact ⟨Nat.zero_le _, fun j hj => absurd hj (Nat.not_lt_zero j)⟩) ?_
  rintro ⟨k, f, b⟩ hI ih26
  have hI : k ≤ H.length ∧ ∀ j, j < k → f j = ((H.getD j 0 : Nat) : Int) ∧ b j = ((H.getD j 0 : Nat) : Int) := hI
  obtain ⟨i1, i2⟩ := hI
  refine j_iload_n F dX7_looks_26 rfl 0 rfl ?_
  refine j_aload_n F dX7_looks_27 rfl 1 rfl ?_
  refine j_getf F (ref := "CairnGameModel") (C := RX7) (T := TX7) (N := 27) (ci := 7) (index := 79) (v := .int (iI ((H.length : Nat) : Int))) (fun w h => (List.mem_cons_of_mem _ (List.mem_append_right _ h))) 0 rfl rfl 15 (by decide) (List.mem_cons_of_mem _ (List.mem_append_left _ (List.mem_append_left _ (List.mem_of_getElem? (l := wsX7_looks_r1) (i := 1) rfl)))) rfl rfl dX7_looks_28 ?_
  refine j_icmp_ge F (tgt := 68) dX7_looks_31 (by decide) ⟨(by unfold rg; omega), (by unfold rg; omega)⟩ (fun c31 => ?_) (fun c31 => ?_)
  · have ek : k = H.length := by omega
    subst ek
    have hr1 : rep f H := fun i hi => (i2 i hi).1
    have hr2 : rep b H := fun i hi => (i2 i hi).2
    refine j_aload_n F dX7_looks_68 rfl 1 rfl ?_
    refine j_callV_V F (As := []) (wr := []) (st := []) (c_X7_lists hfl D g z ad th cC u9.1 (f, ((H.length : Nat) : Int), u9.2.2.2.1, u9.2.2.2.2.1, u9.2.2.2.2.2.1, u9.2.2.2.2.2.2.1, b, ((H.length : Nat) : Int)) cP H H G S M Nn c3 hH hG hS hM hN hst hr1) (idx := 93) (C := RX7) gX7_looks_X7_lists rfl rfl [0, 1, 2, 3, 4, 5, 6, 7, 8, 9, 10, 11, 12, 13, 14] [] rfl rfl (by decide) (by decide) (by decide) (ci := 7) (q0 := 0) rfl rfl (by decide) (by decide) (le_ble rfl) ⟨by decide, by decide⟩ dX7_looks_69 ?_
    rintro u8 h8
    refine J.wsEq (ws2 := moC g ad th cC (u9.1.1, u9.1.2.1, u9.1.2.2.1, u9.1.2.2.2.1, u9.1.2.2.2.2.1, u9.1.2.2.2.2.2.1, u9.1.2.2.2.2.2.2.1, u9.1.2.2.2.2.2.2.2) (f, ((H.length : Nat) : Int), u8.1, u8.2.1, u8.2.2, (((mvL G S M H).length : Nat) : Int), b, ((H.length : Nat) : Int)) cP) rfl ?_
    refine j_aload_n F dX7_looks_72 rfl 1 rfl ?_
    refine j_callV_I F (As := []) (wr := []) (st := []) (c_X7_position hfl D g z ad th cC u9.1 (f, ((H.length : Nat) : Int), u8.1, u8.2.1, u8.2.2, (((mvL G S M H).length : Nat) : Int), b, ((H.length : Nat) : Int)) cP H hH h9.1 hr2) (idx := 89) (C := RX7) gX7_looks_X7_position rfl rfl [0, 1, 2, 3, 4, 5, 6, 7, 8, 9, 10, 11, 12, 13, 14] [] rfl rfl (by decide) (by decide) (by decide) (ci := 7) (q0 := 0) rfl rfl (by decide) (by decide) (le_ble rfl) ⟨by decide, by decide⟩ dX7_looks_73 ?_
    rintro r7 u7 ⟨h7, q7, e7, b7⟩
    subst h7
    refine J.wsEq (ws2 := moC g ad th cC (u9.1.1, u9.1.2.1, u9.1.2.2.1, u9.1.2.2.2.1, u9.1.2.2.2.2.1, u9.1.2.2.2.2.2.1, u9.1.2.2.2.2.2.2.1, u9.1.2.2.2.2.2.2.2) (f, ((H.length : Nat) : Int), u8.1, u8.2.1, u8.2.2, (((mvL G S M H).length : Nat) : Int), u7.1, ((H.length : Nat) : Int)) cP) rfl ?_
    exact ret _ (u9.1, f, u8.1, u8.2.1, u8.2.2, u7.1, u7.2) 0 0 _ _ dX7_looks_76 (by decide) (by decide) (⟨rfl, q7, e7, h9, hr1, h8, b7⟩)
  · have hfk := hst.2.2.2.2.2.1 k (by omega)
    refine j_aload_n F dX7_looks_34 rfl 1 rfl ?_
    refine j_getf F (ref := "CairnGameModel") (C := RX7) (T := TX7) (N := 27) (ci := 7) (index := 37) (v := .ref (ad 14)) (fun w h => (List.mem_cons_of_mem _ (List.mem_append_right _ h))) 0 rfl rfl 14 (by decide) (List.mem_cons_of_mem _ (List.mem_append_left _ (List.mem_append_left _ (List.mem_of_getElem? (l := wsX7_looks_r1) (i := 3) rfl)))) rfl rfl dX7_looks_35 ?_
    refine j_iload_n F dX7_looks_38 rfl 0 rfl ?_
    refine j_aload_n F dX7_looks_39 rfl 1 rfl ?_
    refine j_getf F (ref := "CairnGameModel") (C := RX7) (T := TX7) (N := 27) (ci := 7) (index := 7) (v := .ref (ad 1)) (fun w h => (List.mem_cons_of_mem _ (List.mem_append_right _ h))) 0 rfl rfl 1 (by decide) (List.mem_cons_of_mem _ (List.mem_append_left _ (List.mem_append_left _ (List.mem_of_getElem? (l := wsX7_looks_r1) (i := 0) rfl)))) rfl rfl dX7_looks_40 ?_
    refine j_iconst F dX7_looks_43 ?_
    refine j_iload_n F dX7_looks_44 rfl 0 rfl ?_
    refine j_iadd F dX7_looks_45 ?_
    refine j_iald F 1 (n := 20) (f := cC.1) rfl (5 + k) (by omega) (by omega) (by decide) dX7_looks_46 ?_
    refine J.top (congrArg iI (show cC.1 (5 + k) = (((H.getD k 0) : Nat) : Int) from hfk)) ?_
    refine j_iast F (ws' := moC g ad th cC (u9.1.1, u9.1.2.1, u9.1.2.2.1, u9.1.2.2.2.1, u9.1.2.2.2.2.1, u9.1.2.2.2.2.2.1, u9.1.2.2.2.2.2.2.1, u9.1.2.2.2.2.2.2.2) (nup f k (((H.getD k 0) : Nat) : Int), ((H.length : Nat) : Int), u9.2.2.2.1, u9.2.2.2.2.1, u9.2.2.2.2.2.1, u9.2.2.2.2.2.2.1, b, ((H.length : Nat) : Int)) cP) 10 (n := 12) (f := f) rfl k (rfl) (by omega) (by decide) rfl dX7_looks_47 ?_
    refine j_aload_n F dX7_looks_48 rfl 1 rfl ?_
    refine j_getf F (ref := "CairnGameModel") (C := RX7) (T := TX7) (N := 27) (ci := 7) (index := 49) (v := .ref (ad 20)) (fun w h => (List.mem_cons_of_mem _ (List.mem_append_right _ h))) 0 rfl rfl 20 (by decide) (List.mem_cons_of_mem _ (List.mem_append_left _ (List.mem_append_left _ (List.mem_of_getElem? (l := wsX7_looks_r1) (i := 4) rfl)))) rfl rfl dX7_looks_49 ?_
    refine j_iload_n F dX7_looks_52 rfl 0 rfl ?_
    refine j_aload_n F dX7_looks_53 rfl 1 rfl ?_
    refine j_getf F (ref := "CairnGameModel") (C := RX7) (T := TX7) (N := 27) (ci := 7) (index := 7) (v := .ref (ad 1)) (fun w h => (List.mem_cons_of_mem _ (List.mem_append_right _ h))) 0 rfl rfl 1 (by decide) (List.mem_cons_of_mem _ (List.mem_append_left _ (List.mem_append_left _ (List.mem_of_getElem? (l := wsX7_looks_r1) (i := 0) rfl)))) rfl rfl dX7_looks_54 ?_
    refine j_iconst F dX7_looks_57 ?_
    refine j_iload_n F dX7_looks_58 rfl 0 rfl ?_
    refine j_iadd F dX7_looks_59 ?_
    refine j_iald F 1 (n := 20) (f := cC.1) rfl (5 + k) (by omega) (by omega) (by decide) dX7_looks_60 ?_
    refine J.top (congrArg iI (show cC.1 (5 + k) = (((H.getD k 0) : Nat) : Int) from hfk)) ?_
    refine j_iast F (ws' := moC g ad th cC (u9.1.1, u9.1.2.1, u9.1.2.2.1, u9.1.2.2.2.1, u9.1.2.2.2.2.1, u9.1.2.2.2.2.2.1, u9.1.2.2.2.2.2.2.1, u9.1.2.2.2.2.2.2.2) (nup f k (((H.getD k 0) : Nat) : Int), ((H.length : Nat) : Int), u9.2.2.2.1, u9.2.2.2.2.1, u9.2.2.2.2.2.1, u9.2.2.2.2.2.2.1, nup b k (((H.getD k 0) : Nat) : Int), ((H.length : Nat) : Int)) cP) 14 (n := 13) (f := b) rfl k (rfl) (by omega) (by decide) rfl dX7_looks_61 ?_
    refine j_iinc F (lv' := [(1, .int (iI ((k : Int) + 1))), (0, .ref (ad 0))]) dX7_looks_62 0 rfl (by decide) rfl ?_
    refine j_goto F (tgt := 26) dX7_looks_65 (by decide) ?_
    refine J.loc [0, 1] rfl ?_
    exact ih26 ((k + 1), nup f k (((H.getD k 0) : Nat) : Int), nup b k (((H.getD k 0) : Nat) : Int)) (by show (k + 1) ≤ H.length ∧ ∀ j, j < (k + 1) → (nup f k (((H.getD k 0) : Nat) : Int)) j = ((H.getD j 0 : Nat) : Int) ∧ (nup b k (((H.getD k 0) : Nat) : Int)) j = ((H.getD j 0 : Nat) : Int); exact ⟨by omega, fun j hj => (by by_cases w : j = k; (rw [w, nup_s, nup_s]; exact ⟨rfl, rfl⟩); rw [nup_n _ _ w, nup_n _ _ w]; exact i2 j (by omega))⟩) (by show H.length - (k + 1) < H.length - k; omega)

set_option maxHeartbeats 1000000 in
set_option maxRecDepth 100000 in
theorem c_X7_sum {l : Launch} (hfl : l.flags = flags0) (D : va_G) (g : GT) (z : ZT) (ad : Nat → Nat) (th : Int) (cC : CT) (cT : TT) (cL : LT) (cP : PT) (H : List Nat) (G S M Nn : Nat) (c3 : C3) (hH : okH H) (hG : 1 ≤ G ∧ G ≤ 5) (hS : S ≤ 1) (hM : M ≤ 1) (hN : Nn ≤ 1) (hst : stM cC.1 H G S M Nn c3) : CI l yX7_sum wsX7_sum 1 22 0 D g z [.ref (ad 0)] (moC g ad th cC cT cL cP) (fun (r9 : Int32) (u9 : Unit) => r9 = iI ((sm H : Nat) : Int)) (fun (u9 : Unit) => moC g ad th cC cT cL cP) 0 0 := by
  refine CI_of hfl (own := RX7) ⟨0, 0, 0, 0⟩ 1 22 0 (by decide +kernel) rfl rfl ⟨by decide, by decide, by decide +kernel⟩ ⟨by decide, by decide⟩ (le_ble rfl) (fun _ _ _ => rfl) ?_
  intro p e s m below meth c A Q F ret
  change J p l e _ s m _ below meth c A D _ Q 0 0 (moC g ad th cC cT cL cP) [(0, .ref (ad 0))] [] 0
  have hlen := okH_len hH
  refine j_iconst F dX7_sum_0 ?_
  refine j_istore_n F (lv' := [(1, .int (iI 0)), (0, .ref (ad 0))]) dX7_sum_1 rfl (by decide) rfl ?_
  refine j_iconst F dX7_sum_2 ?_
  refine j_istore_n F (lv' := [(2, .int (iI 0)), (1, .int (iI 0)), (0, .ref (ad 0))]) dX7_sum_3 rfl (by decide) rfl ?_
  refine J.loc [0, 1, 2] rfl ?_
  refine J_loop (σ := Nat) (fun k : Nat => k ≤ H.length) (fun k : Nat => H.length - k) (fun k : Nat => moC g ad th cC cT cL cP) (fun k : Nat => [(2, .int (iI (k : Int))), (1, .int (iI (((smT H k) : Nat) : Int))), (0, .ref (ad 0))]) (0) (by show 0 ≤ H.length; exact Nat.zero_le _) ?_
  rintro k hI ih4
  have hI : k ≤ H.length := hI
  refine j_iload_n F dX7_sum_4 rfl 0 rfl ?_
  refine j_aload_n F dX7_sum_5 rfl 2 rfl ?_
  refine j_getf F (ref := "CairnGameModel") (C := RX7) (T := TX7) (N := 27) (ci := 7) (index := 7) (v := .ref (ad 1)) (fun w h => (List.mem_cons_of_mem _ (List.mem_append_right _ h))) 0 rfl rfl 1 (by decide) (List.mem_cons_of_mem _ (List.mem_append_left _ (List.mem_of_getElem? (i := 0) rfl))) rfl rfl dX7_sum_6 ?_
  refine j_iconst F dX7_sum_9 ?_
  refine j_iald F 1 (n := 20) (f := cC.1) rfl 4 (by decide) (by decide) (by decide) dX7_sum_10 ?_
  refine J.top (congrArg iI (show cC.1 4 = ((H.length : Nat) : Int) from hst.2.2.2.2.1)) ?_
  refine j_icmp_ge F (tgt := 31) dX7_sum_11 (by decide) ⟨(by unfold rg; omega), (by unfold rg; omega)⟩ (fun c11 => ?_) (fun c11 => ?_)
  · have ek : k = H.length := by omega
    refine J.lvEq (lv2 := [(2, .int (iI (k : Int))), (1, .int (iI (((sm H) : Nat) : Int))), (0, .ref (ad 0))]) (by rw [ek, smT_all]) ?_
    refine j_iload_n F dX7_sum_31 rfl 1 rfl ?_
    exact ret _ () 0 0 _ _ dX7_sum_32 (by decide) (by decide) rfl
  · have hfk := hst.2.2.2.2.2.1 k (by omega)
    refine j_iload_n F dX7_sum_14 rfl 1 rfl ?_
    refine j_aload_n F dX7_sum_15 rfl 2 rfl ?_
    refine j_getf F (ref := "CairnGameModel") (C := RX7) (T := TX7) (N := 27) (ci := 7) (index := 7) (v := .ref (ad 1)) (fun w h => (List.mem_cons_of_mem _ (List.mem_append_right _ h))) 0 rfl rfl 1 (by decide) (List.mem_cons_of_mem _ (List.mem_append_left _ (List.mem_of_getElem? (i := 0) rfl))) rfl rfl dX7_sum_16 ?_
    refine j_iconst F dX7_sum_19 ?_
    refine j_iload_n F dX7_sum_20 rfl 0 rfl ?_
    refine j_iadd F dX7_sum_21 ?_
    refine j_iald F 1 (n := 20) (f := cC.1) rfl (5 + k) (by omega) (by omega) (by decide) dX7_sum_22 ?_
    refine J.top (congrArg iI (show cC.1 (5 + k) = (((H.getD k 0) : Nat) : Int) from hfk)) ?_
    refine j_iadd F dX7_sum_23 ?_
    refine J.top (congrArg iI (show ((((smT H k) : Nat) : Int) + (((H.getD k 0) : Nat) : Int)) = (((smT H (k + 1)) : Nat) : Int) from by rw [smT]; rfl)) ?_
    refine j_istore_n F (lv' := [(1, .int (iI (((smT H (k + 1)) : Nat) : Int))), (2, .int (iI (k : Int))), (0, .ref (ad 0))]) dX7_sum_24 rfl (by decide) rfl ?_
    refine j_iinc F (lv' := [(2, .int (iI ((k : Int) + 1))), (1, .int (iI (((smT H (k + 1)) : Nat) : Int))), (0, .ref (ad 0))]) dX7_sum_25 1 rfl (by decide) rfl ?_
    refine j_goto F (tgt := 4) dX7_sum_28 (by decide) ?_
    refine J.loc [0, 1, 2] rfl ?_
    exact ih4 (k + 1) (by show (k + 1) ≤ H.length; omega) (by show H.length - (k + 1) < H.length - k; omega)

end X7D