/-! ===== the model: moves are made ===== -/
section X7F
def whyTk (L : List Nat) (G : Nat) (x t : Int) : Nat := if ¬ (0 ≤ x ∧ x < (L.length : Int)) then 1 else if ¬ (1 ≤ t ∧ t ≤ 5) then 2 else if (G : Int) < t ∨ ((L.getD x.toNat 0 : Nat) : Int) < t then 3 else 0
def whySp (L : List Nat) (S : Nat) (x t : Int) : Nat := if ¬ (0 ≤ x ∧ x < (L.length : Int)) then 1 else if ¬ (1 ≤ t ∧ t ≤ 6) then 2 else if S = 0 ∨ ((L.getD x.toNat 0 : Nat) : Int) < 2 * t then 3 else 0
def whyMg (L : List Nat) (M : Nat) (x t : Int) : Nat := if ¬ ((0 ≤ x ∧ x < (L.length : Int)) ∧ (0 ≤ t ∧ t < (L.length : Int))) then 1 else if x = t then 2 else if M = 1 then 0 else 3
theorem posMv_go {G S M : Nat} {L : List Nat} (hL : okH L) {k q t : Nat} (h : posMv G S M L k q t) (h2 : ¬ (k = 2 ∧ t < q)) : goM L k q t := by
  obtain ⟨hq, h⟩ := h
  have hx := okH_at hL hq
  refine ⟨hq, ?_⟩
  rcases h with h | h | h
  · exact Or.inl ⟨h.1, h.2.1, h.2.2.2⟩
  · exact Or.inr (Or.inl ⟨h.1, h.2.2.1, by omega⟩)
  · exact Or.inr (Or.inr ⟨h.1, by omega, h.2.2.1⟩)
theorem posMv_go2 {G S M : Nat} {L : List Nat} {k q t : Nat} (h : posMv G S M L k q t) (h1 : k = 2) (h2 : t < q) : goM L k t q := by
  obtain ⟨hq, h⟩ := h
  rcases h with h | h | h
  · omega
  · omega
  · exact ⟨h.2.2.1, Or.inr (Or.inr ⟨h.1, h2, hq⟩)⟩
theorem st_make {f f1 : NF} {L L2 : List Nat} {G S M Nn k : Nat} {c : C3} (hk : k < 3) (h : stM f L G S M Nn c) (hl : L2.length ≤ 12) (e : ∀ j, j < 4 ∨ 16 < j → f1 j = f j) (e4 : f1 4 = ((L2.length : Nat) : Int)) (e5 : ∀ j, j < 12 → f1 (5 + j) = ((L2.getD j 0 : Nat) : Int)) : stM (nup f1 (17 + k) (f1 (17 + k) + 1)) L2 G S M Nn (inc3 k c) := by
  obtain ⟨h0, h1, h2, h3, -, -, h6, h7, h8⟩ := h
  refine ⟨by rw [nup_n _ _ (by omega), e 0 (by omega)]; exact h0, by rw [nup_n _ _ (by omega), e 1 (by omega)]; exact h1, by rw [nup_n _ _ (by omega), e 2 (by omega)]; exact h2, by rw [nup_n _ _ (by omega), e 3 (by omega)]; exact h3, by rw [nup_n _ _ (by omega)]; exact e4, fun i hi => by rw [nup_n _ _ (by omega)]; exact e5 i (by omega), ?_⟩
  have e6 := e 17 (by omega)
  have e7 := e 18 (by omega)
  have e8 := e 19 (by omega)
  unfold inc3
  rcases (show k = 0 ∨ k = 1 ∨ k = 2 by omega) with rfl | rfl | rfl
  · rw [if_pos rfl]
    exact ⟨by rw [nup_s, e6, h6]; rfl, by rw [nup_n _ _ (by decide), e7]; exact h7, by rw [nup_n _ _ (by decide), e8]; exact h8⟩
  · rw [if_neg (by decide), if_pos rfl]
    exact ⟨by rw [nup_n _ _ (by decide), e6]; exact h6, by rw [nup_s, e7, h7]; rfl, by rw [nup_n _ _ (by decide), e8]; exact h8⟩
  · rw [if_neg (by decide), if_neg (by decide)]
    exact ⟨by rw [nup_n _ _ (by decide), e6]; exact h6, by rw [nup_n _ _ (by decide), e7]; exact h7, by rw [nup_s, e8, h8]; rfl⟩
theorem apL2_lt {G S M : Nat} {L : List Nat} {q t : Nat} (h : posMv G S M L 2 q t) : min q t < (apL L 2 q t).length := by
  obtain ⟨hq, h⟩ := h
  rcases h with h | h | h
  · exact absurd h.1 (by decide)
  · exact absurd h.1 (by decide)
  · rw [apL_2]
    have := er_len (L := L.set (min q t) (L.getD q 0 + L.getD t 0 - 1)) (i := max q t) (by rw [List.length_set]; omega)
    rw [List.length_set] at this
    omega

set_option maxHeartbeats 1000000 in
set_option maxRecDepth 100000 in
theorem c_X7_isHeap {l : Launch} (hfl : l.flags = flags0) (D : va_G) (g : GT) (z : ZT) (ad : Nat → Nat) (th : Int) (cC : CT) (cT : TT) (cL : LT) (cP : PT) (H : List Nat) (G S M Nn : Nat) (c3 : C3) (x : Int) (hH : okH H) (hG : 1 ≤ G ∧ G ≤ 5) (hS : S ≤ 1) (hM : M ≤ 1) (hN : Nn ≤ 1) (hst : stM cC.1 H G S M Nn c3) (hx : rg x) : CI l yX7_isHeap wsX7_isHeap 2 43 1 D g z [.ref (ad 0), .int (iI x)] (moC g ad th cC cT cL cP) (fun (r9 : Int32) (u9 : Unit) => r9 = iI (b2 (0 ≤ x ∧ x ≤ ((H.length : Nat) : Int) - 1))) (fun (u9 : Unit) => moC g ad th cC cT cL cP) 0 0 := by
  refine CI_of hfl (own := RX7) ⟨1, 0, 0, 22⟩ 2 43 1 (by decide +kernel) rfl rfl ⟨by decide, by decide, by decide +kernel⟩ ⟨by decide, by decide⟩ (le_ble rfl) (fun _ _ h => nar_b2 h) ?_
  intro p e s m below meth c A Q F ret
  change J p l e _ s m _ below meth c A D _ Q 0 0 (moC g ad th cC cT cL cP) [(0, .ref (ad 0)), (1, .int (iI x))] [] 0
  have hlen := okH_len hH
  refine j_iload_n F dX7_isHeap_0 rfl 1 rfl ?_
  refine j_iconst F dX7_isHeap_1 ?_
  refine j_aload_n F dX7_isHeap_2 rfl 0 rfl ?_
  refine j_getf F (ref := "CairnGameModel") (C := RX7) (T := TX7) (N := 27) (ci := 7) (index := 7) (v := .ref (ad 1)) (fun w h => (List.mem_cons_of_mem _ (List.mem_append_right _ h))) 0 rfl rfl 1 (by decide) (List.mem_cons_of_mem _ (List.mem_append_left _ (List.mem_of_getElem? (i := 0) rfl))) rfl rfl dX7_isHeap_3 ?_
  refine j_iconst F dX7_isHeap_6 ?_
  refine j_iald F 1 (n := 20) (f := cC.1) rfl 4 (by decide) (by decide) (by decide) dX7_isHeap_7 ?_
  refine J.top (congrArg iI (show cC.1 4 = ((H.length : Nat) : Int) from hst.2.2.2.2.1)) ?_
  refine j_iconst F dX7_isHeap_8 ?_
  refine j_isub F dX7_isHeap_9 ?_
  refine j_callS_I F (As := [.int (iI x), .int (iI 0), .int (iI (((H.length : Nat) : Int) - 1))]) (wr := moC g ad th cC cT cL cP) (st := []) (c_X7_within hfl D g z x 0 (((H.length : Nat) : Int) - 1) hx (by unfold rg; omega) (by unfold rg; omega)) (idx := 119) gX7_isHeap_X7_within rfl [] [0, 1, 2, 3, 4, 5, 6, 7, 8, 9, 10, 11, 12, 13, 14] rfl rfl (by decide) (by decide) (by decide)  (by decide) (by decide) (le_ble rfl) ⟨by decide, by decide⟩ dX7_isHeap_10 ?_
  rintro r7 u7 h7
  subst h7
  refine J.wsEq (ws2 := moC g ad th cC cT cL cP) rfl ?_
  exact ret _ () 0 0 _ _ dX7_isHeap_13 (by decide) (by decide) rfl

set_option maxHeartbeats 1000000 in
set_option maxRecDepth 100000 in
theorem c_X7_whyNoTake {l : Launch} (hfl : l.flags = flags0) (D : va_G) (g : GT) (z : ZT) (ad : Nat → Nat) (th : Int) (cC : CT) (cT : TT) (cL : LT) (cP : PT) (H : List Nat) (G S M Nn : Nat) (c3 : C3) (x t : Int) (hH : okH H) (hG : 1 ≤ G ∧ G ≤ 5) (hS : S ≤ 1) (hM : M ≤ 1) (hN : Nn ≤ 1) (hst : stM cC.1 H G S M Nn c3) (hx : rg x) (ht : rg t) : CI l yX7_whyNoTake wsX7_whyNoTake 3 65 2 D g z [.ref (ad 0), .int (iI x), .int (iI t)] (moC g ad th cC cT cL cP) (fun (r9 : Int32) (u9 : Unit) => r9 = iI ((whyTk H G x t : Nat) : Int)) (fun (u9 : Unit) => moC g ad th cC cT cL cP) 0 0 := by
  refine CI_of hfl (own := RX7) ⟨2, 0, 0, 43⟩ 3 65 2 (by decide +kernel) rfl rfl ⟨by decide, by decide, by decide +kernel⟩ ⟨by decide, by decide⟩ (le_ble rfl) (fun _ _ _ => rfl) ?_
  intro p e s m below meth c A Q F ret
  change J p l e _ s m _ below meth c A D _ Q 0 0 (moC g ad th cC cT cL cP) [(0, .ref (ad 0)), (1, .int (iI x)), (2, .int (iI t))] [] 0
  have hlen := okH_len hH
  refine j_aload_n F dX7_whyNoTake_0 rfl 0 rfl ?_
  refine j_iload_n F dX7_whyNoTake_1 rfl 1 rfl ?_
  refine j_callV_I F (As := [.int (iI x)]) (wr := []) (st := []) (c_X7_isHeap hfl D g z ad th cC cT cL cP H G S M Nn c3 x hH hG hS hM hN hst hx) (idx := 126) (C := RX7) gX7_whyNoTake_X7_isHeap rfl rfl [0, 1, 2, 3, 4, 5, 6, 7, 8, 9, 10, 11, 12, 13, 14] [] rfl rfl (by decide) (by decide) (by decide) (ci := 7) (q0 := 0) rfl rfl (by decide) (by decide) (le_ble rfl) ⟨by decide, by decide⟩ dX7_whyNoTake_2 ?_
  rintro r6 u6 h6
  subst h6
  refine J.wsEq (ws2 := moC g ad th cC cT cL cP) rfl ?_
  refine j_ifb_ne F (tgt := 12) dX7_whyNoTake_5 (by decide)  (fun c5 => ?_) (fun c5 => ?_)
  · have hxl : 0 ≤ x ∧ x < (H.length : Int) := by omega
    have hx1 := okH_at hH (i := x.toNat) (by omega)
    have hfx := hst.2.2.2.2.2.1 x.toNat (by omega)
    refine j_iload_n F dX7_whyNoTake_12 rfl 2 rfl ?_
    refine j_iconst F dX7_whyNoTake_13 ?_
    refine j_iconst F dX7_whyNoTake_14 ?_
    refine j_callS_I F (As := [.int (iI t), .int (iI 1), .int (iI 5)]) (wr := moC g ad th cC cT cL cP) (st := []) (c_X7_within hfl D g z t 1 5 ht (by unfold rg; omega) (by unfold rg; omega)) (idx := 119) gX7_whyNoTake_X7_within rfl [] [0, 1, 2, 3, 4, 5, 6, 7, 8, 9, 10, 11, 12, 13, 14] rfl rfl (by decide) (by decide) (by decide)  (by decide) (by decide) (le_ble rfl) ⟨by decide, by decide⟩ dX7_whyNoTake_15 ?_
    rintro r7 u7 h7
    subst h7
    refine J.wsEq (ws2 := moC g ad th cC cT cL cP) rfl ?_
    refine j_ifb_ne F (tgt := 25) dX7_whyNoTake_18 (by decide)  (fun c18 => ?_) (fun c18 => ?_)
    · refine j_iload_n F dX7_whyNoTake_25 rfl 2 rfl ?_
      refine j_aload_n F dX7_whyNoTake_26 rfl 0 rfl ?_
      refine j_getf F (ref := "CairnGameModel") (C := RX7) (T := TX7) (N := 27) (ci := 7) (index := 7) (v := .ref (ad 1)) (fun w h => (List.mem_cons_of_mem _ (List.mem_append_right _ h))) 0 rfl rfl 1 (by decide) (List.mem_cons_of_mem _ (List.mem_append_left _ (List.mem_of_getElem? (i := 0) rfl))) rfl rfl dX7_whyNoTake_27 ?_
      refine j_iconst F dX7_whyNoTake_30 ?_
      refine j_iald F 1 (n := 20) (f := cC.1) rfl 0 (by decide) (by decide) (by decide) dX7_whyNoTake_31 ?_
      refine J.top (congrArg iI (show cC.1 0 = (G : Int) from hst.1)) ?_
      refine j_icmp_gt F (tgt := 47) dX7_whyNoTake_32 (by decide) ⟨(by unfold rg; omega), (by unfold rg; omega)⟩ (fun c32 => ?_) (fun c32 => ?_)
      · refine j_iconst F dX7_whyNoTake_47 ?_
        refine j_goto F (tgt := 52) dX7_whyNoTake_48 (by decide) ?_
        exact ret _ () 0 0 _ _ dX7_whyNoTake_52 (by decide) (by decide) (congrArg iI (by unfold whyTk; first | rw [if_pos (by omega)]; rfl | rw [if_neg (by omega), if_pos (by omega)]; rfl | rw [if_neg (by omega), if_neg (by omega), if_pos (by omega)]; rfl | rw [if_neg (by omega), if_neg (by omega), if_neg (by omega)]; rfl))
      · refine j_iload_n F dX7_whyNoTake_35 rfl 2 rfl ?_
        refine j_aload_n F dX7_whyNoTake_36 rfl 0 rfl ?_
        refine j_getf F (ref := "CairnGameModel") (C := RX7) (T := TX7) (N := 27) (ci := 7) (index := 7) (v := .ref (ad 1)) (fun w h => (List.mem_cons_of_mem _ (List.mem_append_right _ h))) 0 rfl rfl 1 (by decide) (List.mem_cons_of_mem _ (List.mem_append_left _ (List.mem_of_getElem? (i := 0) rfl))) rfl rfl dX7_whyNoTake_37 ?_
        refine j_iconst F dX7_whyNoTake_40 ?_
        refine j_iload_n F dX7_whyNoTake_41 rfl 1 rfl ?_
        refine j_iadd F dX7_whyNoTake_42 ?_
        refine j_iald F 1 (n := 20) (f := cC.1) rfl (5 + x.toNat) (by omega) (by omega) (by decide) dX7_whyNoTake_43 ?_
        refine J.top (congrArg iI (show cC.1 (5 + x.toNat) = (((H.getD x.toNat 0) : Nat) : Int) from hfx)) ?_
        refine j_icmp_le F (tgt := 51) dX7_whyNoTake_44 (by decide) ⟨(by unfold rg; omega), (by unfold rg; omega)⟩ (fun c44 => ?_) (fun c44 => ?_)
        · refine j_iconst F dX7_whyNoTake_51 ?_
          exact ret _ () 0 0 _ _ dX7_whyNoTake_52 (by decide) (by decide) (congrArg iI (by unfold whyTk; first | rw [if_pos (by omega)]; rfl | rw [if_neg (by omega), if_pos (by omega)]; rfl | rw [if_neg (by omega), if_neg (by omega), if_pos (by omega)]; rfl | rw [if_neg (by omega), if_neg (by omega), if_neg (by omega)]; rfl))
        · refine j_iconst F dX7_whyNoTake_47 ?_
          refine j_goto F (tgt := 52) dX7_whyNoTake_48 (by decide) ?_
          exact ret _ () 0 0 _ _ dX7_whyNoTake_52 (by decide) (by decide) (congrArg iI (by unfold whyTk; first | rw [if_pos (by omega)]; rfl | rw [if_neg (by omega), if_pos (by omega)]; rfl | rw [if_neg (by omega), if_neg (by omega), if_pos (by omega)]; rfl | rw [if_neg (by omega), if_neg (by omega), if_neg (by omega)]; rfl))
    · refine j_iconst F dX7_whyNoTake_21 ?_
      refine j_goto F (tgt := 52) dX7_whyNoTake_22 (by decide) ?_
      exact ret _ () 0 0 _ _ dX7_whyNoTake_52 (by decide) (by decide) (congrArg iI (by unfold whyTk; first | rw [if_pos (by omega)]; rfl | rw [if_neg (by omega), if_pos (by omega)]; rfl | rw [if_neg (by omega), if_neg (by omega), if_pos (by omega)]; rfl | rw [if_neg (by omega), if_neg (by omega), if_neg (by omega)]; rfl))
  · refine j_iconst F dX7_whyNoTake_8 ?_
    refine j_goto F (tgt := 52) dX7_whyNoTake_9 (by decide) ?_
    exact ret _ () 0 0 _ _ dX7_whyNoTake_52 (by decide) (by decide) (congrArg iI (by unfold whyTk; first | rw [if_pos (by omega)]; rfl | rw [if_neg (by omega), if_pos (by omega)]; rfl | rw [if_neg (by omega), if_neg (by omega), if_pos (by omega)]; rfl | rw [if_neg (by omega), if_neg (by omega), if_neg (by omega)]; rfl))

set_option maxHeartbeats 1000000 in
set_option maxRecDepth 100000 in
theorem c_X7_whyNoSplit {l : Launch} (hfl : l.flags = flags0) (D : va_G) (g : GT) (z : ZT) (ad : Nat → Nat) (th : Int) (cC : CT) (cT : TT) (cL : LT) (cP : PT) (H : List Nat) (G S M Nn : Nat) (c3 : C3) (x t : Int) (hH : okH H) (hG : 1 ≤ G ∧ G ≤ 5) (hS : S ≤ 1) (hM : M ≤ 1) (hN : Nn ≤ 1) (hst : stM cC.1 H G S M Nn c3) (hx : rg x) (ht : rg t) : CI l yX7_whyNoSplit wsX7_whyNoSplit 3 65 2 D g z [.ref (ad 0), .int (iI x), .int (iI t)] (moC g ad th cC cT cL cP) (fun (r9 : Int32) (u9 : Unit) => r9 = iI ((whySp H S x t : Nat) : Int)) (fun (u9 : Unit) => moC g ad th cC cT cL cP) 0 0 := by
  refine CI_of hfl (own := RX7) ⟨2, 0, 0, 43⟩ 3 65 2 (by decide +kernel) rfl rfl ⟨by decide, by decide, by decide +kernel⟩ ⟨by decide, by decide⟩ (le_ble rfl) (fun _ _ _ => rfl) ?_
  intro p e s m below meth c A Q F ret
  change J p l e _ s m _ below meth c A D _ Q 0 0 (moC g ad th cC cT cL cP) [(0, .ref (ad 0)), (1, .int (iI x)), (2, .int (iI t))] [] 0
  have hlen := okH_len hH
  refine j_aload_n F dX7_whyNoSplit_0 rfl 0 rfl ?_
  refine j_iload_n F dX7_whyNoSplit_1 rfl 1 rfl ?_
  refine j_callV_I F (As := [.int (iI x)]) (wr := []) (st := []) (c_X7_isHeap hfl D g z ad th cC cT cL cP H G S M Nn c3 x hH hG hS hM hN hst hx) (idx := 126) (C := RX7) gX7_whyNoSplit_X7_isHeap rfl rfl [0, 1, 2, 3, 4, 5, 6, 7, 8, 9, 10, 11, 12, 13, 14] [] rfl rfl (by decide) (by decide) (by decide) (ci := 7) (q0 := 0) rfl rfl (by decide) (by decide) (le_ble rfl) ⟨by decide, by decide⟩ dX7_whyNoSplit_2 ?_
  rintro r6 u6 h6
  subst h6
  refine J.wsEq (ws2 := moC g ad th cC cT cL cP) rfl ?_
  refine j_ifb_ne F (tgt := 12) dX7_whyNoSplit_5 (by decide)  (fun c5 => ?_) (fun c5 => ?_)
  · have hxl : 0 ≤ x ∧ x < (H.length : Int) := by omega
    have hx1 := okH_at hH (i := x.toNat) (by omega)
    have hfx := hst.2.2.2.2.2.1 x.toNat (by omega)
    refine j_iload_n F dX7_whyNoSplit_12 rfl 2 rfl ?_
    refine j_iconst F dX7_whyNoSplit_13 ?_
    refine j_bipush F dX7_whyNoSplit_14 (by decide) ?_
    refine j_callS_I F (As := [.int (iI t), .int (iI 1), .int (iI 6)]) (wr := moC g ad th cC cT cL cP) (st := []) (c_X7_within hfl D g z t 1 6 ht (by unfold rg; omega) (by unfold rg; omega)) (idx := 119) gX7_whyNoSplit_X7_within rfl [] [0, 1, 2, 3, 4, 5, 6, 7, 8, 9, 10, 11, 12, 13, 14] rfl rfl (by decide) (by decide) (by decide)  (by decide) (by decide) (le_ble rfl) ⟨by decide, by decide⟩ dX7_whyNoSplit_16 ?_
    rintro r7 u7 h7
    subst h7
    refine J.wsEq (ws2 := moC g ad th cC cT cL cP) rfl ?_
    refine j_ifb_ne F (tgt := 26) dX7_whyNoSplit_19 (by decide)  (fun c19 => ?_) (fun c19 => ?_)
    · refine j_aload_n F dX7_whyNoSplit_26 rfl 0 rfl ?_
      refine j_getf F (ref := "CairnGameModel") (C := RX7) (T := TX7) (N := 27) (ci := 7) (index := 7) (v := .ref (ad 1)) (fun w h => (List.mem_cons_of_mem _ (List.mem_append_right _ h))) 0 rfl rfl 1 (by decide) (List.mem_cons_of_mem _ (List.mem_append_left _ (List.mem_of_getElem? (i := 0) rfl))) rfl rfl dX7_whyNoSplit_27 ?_
      refine j_iconst F dX7_whyNoSplit_30 ?_
      refine j_iald F 1 (n := 20) (f := cC.1) rfl 1 (by decide) (by decide) (by decide) dX7_whyNoSplit_31 ?_
      refine J.top (congrArg iI (show cC.1 1 = (S : Int) from hst.2.1)) ?_
      refine j_if_eq F (tgt := 49) dX7_whyNoSplit_32 (by decide) (by unfold rg; omega) (fun c32 => ?_) (fun c32 => ?_)
      · refine j_iconst F dX7_whyNoSplit_49 ?_
        refine j_goto F (tgt := 54) dX7_whyNoSplit_50 (by decide) ?_
        exact ret _ () 0 0 _ _ dX7_whyNoSplit_54 (by decide) (by decide) (congrArg iI (by unfold whySp; first | rw [if_pos (by omega)]; rfl | rw [if_neg (by omega), if_pos (by omega)]; rfl | rw [if_neg (by omega), if_neg (by omega), if_pos (by omega)]; rfl | rw [if_neg (by omega), if_neg (by omega), if_neg (by omega)]; rfl))
      · refine j_iconst F dX7_whyNoSplit_35 ?_
        refine j_iload_n F dX7_whyNoSplit_36 rfl 2 rfl ?_
        refine j_imul F dX7_whyNoSplit_37 ?_
        refine j_aload_n F dX7_whyNoSplit_38 rfl 0 rfl ?_
        refine j_getf F (ref := "CairnGameModel") (C := RX7) (T := TX7) (N := 27) (ci := 7) (index := 7) (v := .ref (ad 1)) (fun w h => (List.mem_cons_of_mem _ (List.mem_append_right _ h))) 0 rfl rfl 1 (by decide) (List.mem_cons_of_mem _ (List.mem_append_left _ (List.mem_of_getElem? (i := 0) rfl))) rfl rfl dX7_whyNoSplit_39 ?_
        refine j_iconst F dX7_whyNoSplit_42 ?_
        refine j_iload_n F dX7_whyNoSplit_43 rfl 1 rfl ?_
        refine j_iadd F dX7_whyNoSplit_44 ?_
        refine j_iald F 1 (n := 20) (f := cC.1) rfl (5 + x.toNat) (by omega) (by omega) (by decide) dX7_whyNoSplit_45 ?_
        refine J.top (congrArg iI (show cC.1 (5 + x.toNat) = (((H.getD x.toNat 0) : Nat) : Int) from hfx)) ?_
        refine j_icmp_le F (tgt := 53) dX7_whyNoSplit_46 (by decide) ⟨(by unfold rg; omega), (by unfold rg; omega)⟩ (fun c46 => ?_) (fun c46 => ?_)
        · refine j_iconst F dX7_whyNoSplit_53 ?_
          exact ret _ () 0 0 _ _ dX7_whyNoSplit_54 (by decide) (by decide) (congrArg iI (by unfold whySp; first | rw [if_pos (by omega)]; rfl | rw [if_neg (by omega), if_pos (by omega)]; rfl | rw [if_neg (by omega), if_neg (by omega), if_pos (by omega)]; rfl | rw [if_neg (by omega), if_neg (by omega), if_neg (by omega)]; rfl))
        · refine j_iconst F dX7_whyNoSplit_49 ?_
          refine j_goto F (tgt := 54) dX7_whyNoSplit_50 (by decide) ?_
          exact ret _ () 0 0 _ _ dX7_whyNoSplit_54 (by decide) (by decide) (congrArg iI (by unfold whySp; first | rw [if_pos (by omega)]; rfl | rw [if_neg (by omega), if_pos (by omega)]; rfl | rw [if_neg (by omega), if_neg (by omega), if_pos (by omega)]; rfl | rw [if_neg (by omega), if_neg (by omega), if_neg (by omega)]; rfl))
    · refine j_iconst F dX7_whyNoSplit_22 ?_
      refine j_goto F (tgt := 54) dX7_whyNoSplit_23 (by decide) ?_
      exact ret _ () 0 0 _ _ dX7_whyNoSplit_54 (by decide) (by decide) (congrArg iI (by unfold whySp; first | rw [if_pos (by omega)]; rfl | rw [if_neg (by omega), if_pos (by omega)]; rfl | rw [if_neg (by omega), if_neg (by omega), if_pos (by omega)]; rfl | rw [if_neg (by omega), if_neg (by omega), if_neg (by omega)]; rfl))
  · refine j_iconst F dX7_whyNoSplit_8 ?_
    refine j_goto F (tgt := 54) dX7_whyNoSplit_9 (by decide) ?_
    exact ret _ () 0 0 _ _ dX7_whyNoSplit_54 (by decide) (by decide) (congrArg iI (by unfold whySp; first | rw [if_pos (by omega)]; rfl | rw [if_neg (by omega), if_pos (by omega)]; rfl | rw [if_neg (by omega), if_neg (by omega), if_pos (by omega)]; rfl | rw [if_neg (by omega), if_neg (by omega), if_neg (by omega)]; rfl))

set_option maxHeartbeats 1000000 in
set_option maxRecDepth 100000 in
theorem c_X7_whyNoMerge {l : Launch} (hfl : l.flags = flags0) (D : va_G) (g : GT) (z : ZT) (ad : Nat → Nat) (th : Int) (cC : CT) (cT : TT) (cL : LT) (cP : PT) (H : List Nat) (G S M Nn : Nat) (c3 : C3) (x t : Int) (hH : okH H) (hG : 1 ≤ G ∧ G ≤ 5) (hS : S ≤ 1) (hM : M ≤ 1) (hN : Nn ≤ 1) (hst : stM cC.1 H G S M Nn c3) (hx : rg x) (ht : rg t) : CI l yX7_whyNoMerge wsX7_whyNoMerge 3 65 2 D g z [.ref (ad 0), .int (iI x), .int (iI t)] (moC g ad th cC cT cL cP) (fun (r9 : Int32) (u9 : Unit) => r9 = iI ((whyMg H M x t : Nat) : Int)) (fun (u9 : Unit) => moC g ad th cC cT cL cP) 0 0 := by
  refine CI_of hfl (own := RX7) ⟨2, 0, 0, 43⟩ 3 65 2 (by decide +kernel) rfl rfl ⟨by decide, by decide, by decide +kernel⟩ ⟨by decide, by decide⟩ (le_ble rfl) (fun _ _ _ => rfl) ?_
  intro p e s m below meth c A Q F ret
  change J p l e _ s m _ below meth c A D _ Q 0 0 (moC g ad th cC cT cL cP) [(0, .ref (ad 0)), (1, .int (iI x)), (2, .int (iI t))] [] 0
  have hlen := okH_len hH
  refine j_aload_n F dX7_whyNoMerge_0 rfl 0 rfl ?_
  refine j_iload_n F dX7_whyNoMerge_1 rfl 1 rfl ?_
  refine j_callV_I F (As := [.int (iI x)]) (wr := []) (st := []) (c_X7_isHeap hfl D g z ad th cC cT cL cP H G S M Nn c3 x hH hG hS hM hN hst hx) (idx := 126) (C := RX7) gX7_whyNoMerge_X7_isHeap rfl rfl [0, 1, 2, 3, 4, 5, 6, 7, 8, 9, 10, 11, 12, 13, 14] [] rfl rfl (by decide) (by decide) (by decide) (ci := 7) (q0 := 0) rfl rfl (by decide) (by decide) (le_ble rfl) ⟨by decide, by decide⟩ dX7_whyNoMerge_2 ?_
  rintro r6 u6 h6
  subst h6
  refine J.wsEq (ws2 := moC g ad th cC cT cL cP) rfl ?_
  refine j_ifb_eq F (tgt := 16) dX7_whyNoMerge_5 (by decide)  (fun c5 => ?_) (fun c5 => ?_)
  · refine j_iconst F dX7_whyNoMerge_16 ?_
    refine j_goto F (tgt := 44) dX7_whyNoMerge_17 (by decide) ?_
    exact ret _ () 0 0 _ _ dX7_whyNoMerge_44 (by decide) (by decide) (congrArg iI (by unfold whyMg; first | rw [if_pos (by omega)]; rfl | rw [if_neg (by omega), if_pos (by omega)]; rfl | rw [if_neg (by omega), if_neg (by omega), if_pos (by omega)]; rfl | rw [if_neg (by omega), if_neg (by omega), if_neg (by omega)]; rfl))
  · refine j_aload_n F dX7_whyNoMerge_8 rfl 0 rfl ?_
    refine j_iload_n F dX7_whyNoMerge_9 rfl 2 rfl ?_
    refine j_callV_I F (As := [.int (iI t)]) (wr := []) (st := []) (c_X7_isHeap hfl D g z ad th cC cT cL cP H G S M Nn c3 t hH hG hS hM hN hst ht) (idx := 126) (C := RX7) gX7_whyNoMerge_X7_isHeap rfl rfl [0, 1, 2, 3, 4, 5, 6, 7, 8, 9, 10, 11, 12, 13, 14] [] rfl rfl (by decide) (by decide) (by decide) (ci := 7) (q0 := 0) rfl rfl (by decide) (by decide) (le_ble rfl) ⟨by decide, by decide⟩ dX7_whyNoMerge_10 ?_
    rintro r5 u5 h5
    subst h5
    refine J.wsEq (ws2 := moC g ad th cC cT cL cP) rfl ?_
    refine j_ifb_ne F (tgt := 20) dX7_whyNoMerge_13 (by decide)  (fun c13 => ?_) (fun c13 => ?_)
    · refine j_iload_n F dX7_whyNoMerge_20 rfl 1 rfl ?_
      refine j_iload_n F dX7_whyNoMerge_21 rfl 2 rfl ?_
      refine j_icmp_ne F (tgt := 29) dX7_whyNoMerge_22 (by decide) ⟨(by assumption), (by assumption)⟩ (fun c22 => ?_) (fun c22 => ?_)
      · refine j_aload_n F dX7_whyNoMerge_29 rfl 0 rfl ?_
        refine j_getf F (ref := "CairnGameModel") (C := RX7) (T := TX7) (N := 27) (ci := 7) (index := 7) (v := .ref (ad 1)) (fun w h => (List.mem_cons_of_mem _ (List.mem_append_right _ h))) 0 rfl rfl 1 (by decide) (List.mem_cons_of_mem _ (List.mem_append_left _ (List.mem_of_getElem? (i := 0) rfl))) rfl rfl dX7_whyNoMerge_30 ?_
        refine j_iconst F dX7_whyNoMerge_33 ?_
        refine j_iald F 1 (n := 20) (f := cC.1) rfl 2 (by decide) (by decide) (by decide) dX7_whyNoMerge_34 ?_
        refine J.top (congrArg iI (show cC.1 2 = (M : Int) from hst.2.2.1)) ?_
        refine j_iconst F dX7_whyNoMerge_35 ?_
        refine j_icmp_ne F (tgt := 43) dX7_whyNoMerge_36 (by decide) ⟨(by unfold rg; omega), (by unfold rg; omega)⟩ (fun c36 => ?_) (fun c36 => ?_)
        · refine j_iconst F dX7_whyNoMerge_43 ?_
          exact ret _ () 0 0 _ _ dX7_whyNoMerge_44 (by decide) (by decide) (congrArg iI (by unfold whyMg; first | rw [if_pos (by omega)]; rfl | rw [if_neg (by omega), if_pos (by omega)]; rfl | rw [if_neg (by omega), if_neg (by omega), if_pos (by omega)]; rfl | rw [if_neg (by omega), if_neg (by omega), if_neg (by omega)]; rfl))
        · refine j_iconst F dX7_whyNoMerge_39 ?_
          refine j_goto F (tgt := 44) dX7_whyNoMerge_40 (by decide) ?_
          exact ret _ () 0 0 _ _ dX7_whyNoMerge_44 (by decide) (by decide) (congrArg iI (by unfold whyMg; first | rw [if_pos (by omega)]; rfl | rw [if_neg (by omega), if_pos (by omega)]; rfl | rw [if_neg (by omega), if_neg (by omega), if_pos (by omega)]; rfl | rw [if_neg (by omega), if_neg (by omega), if_neg (by omega)]; rfl))
      · refine j_iconst F dX7_whyNoMerge_25 ?_
        refine j_goto F (tgt := 44) dX7_whyNoMerge_26 (by decide) ?_
        exact ret _ () 0 0 _ _ dX7_whyNoMerge_44 (by decide) (by decide) (congrArg iI (by unfold whyMg; first | rw [if_pos (by omega)]; rfl | rw [if_neg (by omega), if_pos (by omega)]; rfl | rw [if_neg (by omega), if_neg (by omega), if_pos (by omega)]; rfl | rw [if_neg (by omega), if_neg (by omega), if_neg (by omega)]; rfl))
    · refine j_iconst F dX7_whyNoMerge_16 ?_
      refine j_goto F (tgt := 44) dX7_whyNoMerge_17 (by decide) ?_
      exact ret _ () 0 0 _ _ dX7_whyNoMerge_44 (by decide) (by decide) (congrArg iI (by unfold whyMg; first | rw [if_pos (by omega)]; rfl | rw [if_neg (by omega), if_pos (by omega)]; rfl | rw [if_neg (by omega), if_neg (by omega), if_pos (by omega)]; rfl | rw [if_neg (by omega), if_neg (by omega), if_neg (by omega)]; rfl))

set_option maxHeartbeats 1000000 in
set_option maxRecDepth 100000 in
theorem c_X7_makes {l : Launch} (hfl : l.flags = flags0) (D : va_G) (g : GT) (z : ZT) (ad : Nat → Nat) (th : Int) (cC : CT) (cT : TT) (cL : LT) (cP : PT) (H : List Nat) (G S M Nn : Nat) (c3 : C3) (k q t : Nat) (hT : tabS cT) (hH : okH H) (hG : 1 ≤ G ∧ G ≤ 5) (hS : S ≤ 1) (hM : M ≤ 1) (hN : Nn ≤ 1) (hst : stM cC.1 H G S M Nn c3) (hm : posMv G S M H k q t) : CV l yX7_makes wsX7_makes 7 165 3 D g z [.ref (ad 0), .int (iI (k : Int)), .int (iI (q : Int)), .int (iI (t : Int))] (moC g ad th cC cT cL cP) (fun (u9 : NF × TT × LT) => stM u9.1 (apL H k q t) G S M Nn (inc3 k c3) ∧ tabT G S M u9.2.1) (fun (u9 : NF × TT × LT) => moC g ad th (u9.1, cC.2.1, cC.2.2.1, cC.2.2.2.1, cC.2.2.2.2) (u9.2.1.1, u9.2.1.2.1, u9.2.1.2.2.1, u9.2.1.2.2.2.1, u9.2.1.2.2.2.2.1, u9.2.1.2.2.2.2.2.1, u9.2.1.2.2.2.2.2.2.1, u9.2.1.2.2.2.2.2.2.2) (u9.2.2.1, u9.2.2.2.1, u9.2.2.2.2.1, u9.2.2.2.2.2.1, u9.2.2.2.2.2.2.1, u9.2.2.2.2.2.2.2.1, u9.2.2.2.2.2.2.2.2.1, u9.2.2.2.2.2.2.2.2.2) cP) 0 0 := by
  refine CV_of hfl (own := RX7) ⟨6, 0, 0, 139⟩ 7 165 3 (by decide +kernel) rfl rfl ⟨by decide, by decide, by decide +kernel⟩ ⟨by decide, by decide⟩ (le_ble rfl) ?_
  intro p e s m below meth c A Q F hin ret
  change J p l e _ s m _ below meth c A D _ Q 0 0 (moC g ad th cC cT cL cP) [(0, .ref (ad 0)), (1, .int (iI (k : Int))), (2, .int (iI (q : Int))), (3, .int (iI (t : Int)))] [] 0
  have hlen := okH_len hH
  have hkq := co_pre (f := fun i => ((H.getD i 0 : Nat) : Int)) (fun i hi => rfl) hH hm
  have hk3 : k < 3 := hkq.1
  have hq12 : q < H.length := hm.1
  have ht12 : t ≤ 12 := by have hxq := okH_at hH hm.1; rcases hm.2 with h9 | h9 | h9 <;> omega
  clear hkq
  have hal := okH_len (pos_ok hH hm)
  refine j_aload_n F dX7_makes_0 rfl 0 rfl ?_
  refine j_callV_I F (As := []) (wr := []) (st := []) (c_X7_looks hfl D g z ad th cC cT cL cP H G S M Nn c3 hT hH hG hS hM hN hst) (idx := 129) (C := RX7) gX7_makes_X7_looks rfl rfl [0, 1, 2, 3, 4, 5, 6, 7, 8, 9, 10, 11, 12, 13, 14] [] rfl rfl (by decide) (by decide) (by decide) (ci := 7) (q0 := 0) rfl rfl (by decide) (by decide) (le_ble rfl) ⟨by decide, by decide⟩ dX7_makes_1 ?_
  rintro r9 u9 ⟨h9, q9, e9, h7, h6, h5, h4⟩
  subst h9
  refine J.wsEq (ws2 := moC g ad th cC (u9.1.1, u9.1.2.1, u9.1.2.2.1, u9.1.2.2.2.1, u9.1.2.2.2.2.1, u9.1.2.2.2.2.2.1, u9.1.2.2.2.2.2.2.1, u9.1.2.2.2.2.2.2.2) (u9.2.1, ((H.length : Nat) : Int), u9.2.2.1, u9.2.2.2.1, u9.2.2.2.2.1, (((mvL G S M H).length : Nat) : Int), u9.2.2.2.2.2.1, ((H.length : Nat) : Int)) cP) rfl ?_
  refine j_pop F dX7_makes_4 rfl ?_
  refine j_iload_n F dX7_makes_5 rfl 1 rfl ?_
  refine j_iconst F dX7_makes_6 ?_
  refine j_icmp_ne F (tgt := 19) dX7_makes_7 (by decide) ⟨(by unfold rg; omega), (by unfold rg; omega)⟩ (fun c7 => ?_) (fun c7 => ?_)
  · refine j_iload_n F dX7_makes_19 rfl 2 rfl ?_
    refine j_istore F (lv' := [(4, .int (iI (q : Int))), (0, .ref (ad 0)), (1, .int (iI (k : Int))), (2, .int (iI (q : Int))), (3, .int (iI (t : Int)))]) dX7_makes_20 (by decide) rfl ?_
    refine j_iload_n F dX7_makes_22 rfl 2 rfl ?_
    refine j_iconst F dX7_makes_23 ?_
    refine j_icmp_ne F (tgt := 36) dX7_makes_24 (by decide) ⟨(by unfold rg; omega), (by unfold rg; omega)⟩ (fun c24 => ?_) (fun h9 => by exfalso; omega)
    refine j_iload_n F dX7_makes_36 rfl 4 rfl ?_
    refine j_istore F (lv' := [(5, .int (iI (t : Int))), (4, .int (iI (q : Int))), (0, .ref (ad 0)), (1, .int (iI (k : Int))), (2, .int (iI (q : Int))), (3, .int (iI (t : Int)))]) dX7_makes_37 (by decide) rfl ?_
    have hgo : goM H k q t := posMv_go hH hm (by omega)
    have eap : apL H k q t = apL H k q t := rfl
    refine j_aload_n F dX7_makes_39 rfl 2 rfl ?_
    refine j_iload_n F dX7_makes_40 rfl 3 rfl ?_
    refine j_iload F dX7_makes_41 1 rfl ?_
    refine j_iload F dX7_makes_43 0 rfl ?_
    refine j_callV_V F (As := [.int (iI (k : Int)), .int (iI (q : Int)), .int (iI (t : Int))]) (wr := []) (st := []) (c_X7_goes hfl D g z ad th cC u9.1 (u9.2.1, ((H.length : Nat) : Int), u9.2.2.1, u9.2.2.2.1, u9.2.2.2.2.1, (((mvL G S M H).length : Nat) : Int), u9.2.2.2.2.2.1, ((H.length : Nat) : Int)) cP H k q t hH hgo h6) (idx := 86) (C := RX7) gX7_makes_X7_goes rfl rfl [0, 1, 2, 3, 4, 5, 6, 7, 8, 9, 10, 11, 12, 13, 14] [] rfl rfl (by decide) (by decide) (by decide) (ci := 7) (q0 := 0) rfl rfl (by decide) (by decide) (le_ble rfl) ⟨by decide, by decide⟩ dX7_makes_45 ?_
    rintro u8 h8
    rw [eap] at h8
    refine J.wsEq (ws2 := moC g ad th cC (u9.1.1, u9.1.2.1, u9.1.2.2.1, u9.1.2.2.2.1, u9.1.2.2.2.2.1, u9.1.2.2.2.2.2.1, u9.1.2.2.2.2.2.2.1, u9.1.2.2.2.2.2.2.2) (u9.2.1, ((H.length : Nat) : Int), u9.2.2.1, u9.2.2.2.1, u9.2.2.2.2.1, (((mvL G S M H).length : Nat) : Int), u8, (((apL H k q t).length : Nat) : Int)) cP) rfl ?_
    refine J.wsEq (ws2 := moC g ad th cC (u9.1.1, u9.1.2.1, u9.1.2.2.1, u9.1.2.2.2.1, u9.1.2.2.2.2.1, u9.1.2.2.2.2.2.1, u9.1.2.2.2.2.2.2.1, u9.1.2.2.2.2.2.2.2) (u9.2.1, ((H.length : Nat) : Int), u9.2.2.1, u9.2.2.2.1, u9.2.2.2.2.1, (((mvL G S M H).length : Nat) : Int), u8, (((apL H k q t).length : Nat) : Int)) cP) (by first | (rw [eap]) | (dsimp only; rw [eap])) ?_
    refine j_aload_n F dX7_makes_48 rfl 2 rfl ?_
    refine j_getf F (ref := "CairnGameModel") (C := RX7) (T := TX7) (N := 27) (ci := 7) (index := 7) (v := .ref (ad 1)) (fun w h => (List.mem_cons_of_mem _ (List.mem_append_right _ h))) 0 rfl rfl 1 (by decide) (List.mem_cons_of_mem _ (List.mem_append_left _ (List.mem_append_left _ (List.mem_of_getElem? (l := wsX7_makes_r1) (i := 0) rfl)))) rfl rfl dX7_makes_49 ?_
    refine j_iconst F dX7_makes_52 ?_
    refine j_aload_n F dX7_makes_53 rfl 2 rfl ?_
    refine j_getf F (ref := "CairnGameModel") (C := RX7) (T := TX7) (N := 27) (ci := 7) (index := 70) (v := .int (iI (((apL H k q t).length : Nat) : Int))) (fun w h => (List.mem_cons_of_mem _ (List.mem_append_right _ h))) 0 rfl rfl 21 (by decide) (List.mem_cons_of_mem _ (List.mem_append_left _ (List.mem_append_left _ (List.mem_of_getElem? (l := wsX7_makes_r1) (i := 1) rfl)))) rfl rfl dX7_makes_54 ?_
    refine j_iast F (ws' := moC g ad th (nup cC.1 4 (((apL H k q t).length : Nat) : Int), cC.2.1, cC.2.2.1, cC.2.2.2.1, cC.2.2.2.2) (u9.1.1, u9.1.2.1, u9.1.2.2.1, u9.1.2.2.2.1, u9.1.2.2.2.2.1, u9.1.2.2.2.2.2.1, u9.1.2.2.2.2.2.2.1, u9.1.2.2.2.2.2.2.2) (u9.2.1, ((H.length : Nat) : Int), u9.2.2.1, u9.2.2.2.1, u9.2.2.2.2.1, (((mvL G S M H).length : Nat) : Int), u8, (((apL H k q t).length : Nat) : Int)) cP) 1 (n := 20) (f := cC.1) rfl 4 (by decide) (by decide) (by decide) rfl dX7_makes_57 ?_
    refine j_iconst F dX7_makes_58 ?_
    refine j_istore F (lv' := [(6, .int (iI 0)), (5, .int (iI (t : Int))), (4, .int (iI (q : Int))), (0, .ref (ad 0)), (1, .int (iI (k : Int))), (2, .int (iI (q : Int))), (3, .int (iI (t : Int)))]) dX7_makes_59 (by decide) rfl ?_
    refine J.loc [0, 3, 4] rfl ?_
    refine J_loop (σ := Nat × NF) (fun x9 : Nat × NF => match x9 with | (j, f1) => j ≤ 12 ∧ (∀ i, i < 4 ∨ 16 < i → f1 i = cC.1 i) ∧ f1 4 = (((apL H k q t).length : Nat) : Int) ∧ ∀ i, i < j → f1 (5 + i) = (((apL H k q t).getD i 0 : Nat) : Int)) (fun x9 : Nat × NF => match x9 with | (j, f1) => 12 - j) (fun x9 : Nat × NF => match x9 with | (j, f1) => moC g ad th (f1, cC.2.1, cC.2.2.1, cC.2.2.2.1, cC.2.2.2.2) (u9.1.1, u9.1.2.1, u9.1.2.2.1, u9.1.2.2.2.1, u9.1.2.2.2.2.1, u9.1.2.2.2.2.2.1, u9.1.2.2.2.2.2.2.1, u9.1.2.2.2.2.2.2.2) (u9.2.1, ((H.length : Nat) : Int), u9.2.2.1, u9.2.2.2.1, u9.2.2.2.2.1, (((mvL G S M H).length : Nat) : Int), u8, (((apL H k q t).length : Nat) : Int)) cP) (fun x9 : Nat × NF => match x9 with | (j, f1) => [(6, .int (iI (j : Int))), (0, .ref (ad 0)), (1, .int (iI (k : Int)))]) (0, (nup cC.1 4 (((apL H k q t).length : Nat) : Int))) (by show 0 ≤ 12 ∧ (∀ i, i < 4 ∨ 16 < i → (nup cC.1 4 (((apL H k q t).length : Nat) : Int)) i = cC.1 i) ∧ (nup cC.1 4 (((apL H k q t).length : Nat) : Int)) 4 = (((apL H k q t).length : Nat) : Int) ∧ ∀ i, i < 0 → (nup cC.1 4 (((apL H k q t).length : Nat) : Int)) (5 + i) = (((apL H k q t).getD i 0 : Nat) : Int); exact ⟨Nat.zero_le _, fun i hi => by rw [nup_n _ _ (by omega)], nup_s _ _ _, fun i hi => absurd hi (Nat.not_lt_zero i)⟩) ?_
    rintro ⟨j, f1⟩ hI ih61
    have hI : j ≤ 12 ∧ (∀ i, i < 4 ∨ 16 < i → f1 i = cC.1 i) ∧ f1 4 = (((apL H k q t).length : Nat) : Int) ∧ ∀ i, i < j → f1 (5 + i) = (((apL H k q t).getD i 0 : Nat) : Int) := hI
    obtain ⟨i1, i2, i3, i4⟩ := hI
    refine j_iload F dX7_makes_61 0 rfl ?_
    refine j_bipush F dX7_makes_63 (by decide) ?_
    refine j_icmp_ge F (tgt := 103) dX7_makes_65 (by decide) ⟨(by unfold rg; omega), (by unfold rg; omega)⟩ (fun c65 => ?_) (fun c65 => ?_)
    · have ej : j = 12 := by omega
      have hF := st_make hk3 hst hal i2 i3 (fun i hi => i4 i (by omega))
      refine j_aload_n F dX7_makes_103 rfl 1 rfl ?_
      refine j_getf F (ref := "CairnGameModel") (C := RX7) (T := TX7) (N := 27) (ci := 7) (index := 7) (v := .ref (ad 1)) (fun w h => (List.mem_cons_of_mem _ (List.mem_append_right _ h))) 0 rfl rfl 1 (by decide) (List.mem_cons_of_mem _ (List.mem_append_left _ (List.mem_append_left _ (List.mem_of_getElem? (l := wsX7_makes_r1) (i := 0) rfl)))) rfl rfl dX7_makes_104 ?_
      refine j_bipush F dX7_makes_107 (by decide) ?_
      refine j_iload_n F dX7_makes_109 rfl 2 rfl ?_
      refine j_iadd F dX7_makes_110 ?_
      refine j_dup2 F dX7_makes_111 rfl rfl ?_
      refine j_iald F 1 (n := 20) (f := f1) rfl (17 + k) (by omega) (by omega) (by decide) dX7_makes_112 ?_
      refine j_iconst F dX7_makes_113 ?_
      refine j_iadd F dX7_makes_114 ?_
      refine j_iast F (ws' := moC g ad th (nup f1 (17 + k) (f1 (17 + k) + 1), cC.2.1, cC.2.2.1, cC.2.2.2.1, cC.2.2.2.2) (u9.1.1, u9.1.2.1, u9.1.2.2.1, u9.1.2.2.2.1, u9.1.2.2.2.2.1, u9.1.2.2.2.2.2.1, u9.1.2.2.2.2.2.2.1, u9.1.2.2.2.2.2.2.2) (u9.2.1, ((H.length : Nat) : Int), u9.2.2.1, u9.2.2.2.1, u9.2.2.2.2.1, (((mvL G S M H).length : Nat) : Int), u8, (((apL H k q t).length : Nat) : Int)) cP) 1 (n := 20) (f := f1) rfl (17 + k) (by omega) (by omega) (by decide) rfl dX7_makes_115 ?_
      exact ret (nup f1 (17 + k) (f1 (17 + k) + 1), u9.1, (u9.2.1, ((H.length : Nat) : Int), u9.2.2.1, u9.2.2.2.1, u9.2.2.2.2.1, (((mvL G S M H).length : Nat) : Int), u8, (((apL H k q t).length : Nat) : Int))) 0 0 _ _ dX7_makes_116 (by decide) (by decide) (⟨hF, h7⟩)
    · refine j_aload_n F dX7_makes_68 rfl 1 rfl ?_
      refine j_getf F (ref := "CairnGameModel") (C := RX7) (T := TX7) (N := 27) (ci := 7) (index := 7) (v := .ref (ad 1)) (fun w h => (List.mem_cons_of_mem _ (List.mem_append_right _ h))) 0 rfl rfl 1 (by decide) (List.mem_cons_of_mem _ (List.mem_append_left _ (List.mem_append_left _ (List.mem_of_getElem? (l := wsX7_makes_r1) (i := 0) rfl)))) rfl rfl dX7_makes_69 ?_
      refine j_iconst F dX7_makes_72 ?_
      refine j_iload F dX7_makes_73 0 rfl ?_
      refine j_iadd F dX7_makes_75 ?_
      refine j_iload F dX7_makes_76 0 rfl ?_
      refine j_aload_n F dX7_makes_78 rfl 1 rfl ?_
      refine j_getf F (ref := "CairnGameModel") (C := RX7) (T := TX7) (N := 27) (ci := 7) (index := 70) (v := .int (iI (((apL H k q t).length : Nat) : Int))) (fun w h => (List.mem_cons_of_mem _ (List.mem_append_right _ h))) 0 rfl rfl 21 (by decide) (List.mem_cons_of_mem _ (List.mem_append_left _ (List.mem_append_left _ (List.mem_of_getElem? (l := wsX7_makes_r1) (i := 1) rfl)))) rfl rfl dX7_makes_79 ?_
      refine j_icmp_ge F (tgt := 95) dX7_makes_82 (by decide) ⟨(by unfold rg; omega), (by unfold rg; omega)⟩ (fun c82 => ?_) (fun c82 => ?_)
      · have hz : (0 : Int) = (((apL H k q t).getD j 0 : Nat) : Int) := by rw [getD_out0 _ j (by omega)]; rfl
        refine j_iconst F dX7_makes_95 ?_
        refine j_iast F (ws' := moC g ad th (nup f1 (5 + j) 0, cC.2.1, cC.2.2.1, cC.2.2.2.1, cC.2.2.2.2) (u9.1.1, u9.1.2.1, u9.1.2.2.1, u9.1.2.2.2.1, u9.1.2.2.2.2.1, u9.1.2.2.2.2.2.1, u9.1.2.2.2.2.2.2.1, u9.1.2.2.2.2.2.2.2) (u9.2.1, ((H.length : Nat) : Int), u9.2.2.1, u9.2.2.2.1, u9.2.2.2.2.1, (((mvL G S M H).length : Nat) : Int), u8, (((apL H k q t).length : Nat) : Int)) cP) 1 (n := 20) (f := f1) rfl (5 + j) (by omega) (by omega) (by decide) rfl dX7_makes_96 ?_
        refine j_iinc F (lv' := [(6, .int (iI ((j : Int) + 1))), (0, .ref (ad 0)), (1, .int (iI (k : Int)))]) dX7_makes_97 0 rfl (by decide) rfl ?_
        refine j_goto F (tgt := 61) dX7_makes_100 (by decide) ?_
        refine J.loc [0, 1, 2] rfl ?_
        exact ih61 ((j + 1), nup f1 (5 + j) 0) (by show (j + 1) ≤ 12 ∧ (∀ i, i < 4 ∨ 16 < i → (nup f1 (5 + j) 0) i = cC.1 i) ∧ (nup f1 (5 + j) 0) 4 = (((apL H k q t).length : Nat) : Int) ∧ ∀ i, i < (j + 1) → (nup f1 (5 + j) 0) (5 + i) = (((apL H k q t).getD i 0 : Nat) : Int); exact ⟨by omega, fun i hi => by rw [nup_n _ _ (by omega)]; exact i2 i hi, by rw [nup_n _ _ (by omega)]; exact i3, fun i hi => (by by_cases w : i = j; (rw [w, nup_s]; first | rfl | exact hbj | exact hz); rw [nup_n _ _ (by omega)]; exact i4 i (by omega))⟩) (by show 12 - (j + 1) < 12 - j; omega)
      · have hbj := h8 j (by omega)
        refine j_aload_n F dX7_makes_85 rfl 1 rfl ?_
        refine j_getf F (ref := "CairnGameModel") (C := RX7) (T := TX7) (N := 27) (ci := 7) (index := 49) (v := .ref (ad 20)) (fun w h => (List.mem_cons_of_mem _ (List.mem_append_right _ h))) 0 rfl rfl 20 (by decide) (List.mem_cons_of_mem _ (List.mem_append_left _ (List.mem_append_left _ (List.mem_of_getElem? (l := wsX7_makes_r1) (i := 2) rfl)))) rfl rfl dX7_makes_86 ?_
        refine j_iload F dX7_makes_89 0 rfl ?_
        refine j_iald F 14 (n := 13) (f := u8) rfl j (rfl) (by omega) (by decide) dX7_makes_91 ?_
        refine j_goto F (tgt := 96) dX7_makes_92 (by decide) ?_
        refine j_iast F (ws' := moC g ad th (nup f1 (5 + j) (u8 j), cC.2.1, cC.2.2.1, cC.2.2.2.1, cC.2.2.2.2) (u9.1.1, u9.1.2.1, u9.1.2.2.1, u9.1.2.2.2.1, u9.1.2.2.2.2.1, u9.1.2.2.2.2.2.1, u9.1.2.2.2.2.2.2.1, u9.1.2.2.2.2.2.2.2) (u9.2.1, ((H.length : Nat) : Int), u9.2.2.1, u9.2.2.2.1, u9.2.2.2.2.1, (((mvL G S M H).length : Nat) : Int), u8, (((apL H k q t).length : Nat) : Int)) cP) 1 (n := 20) (f := f1) rfl (5 + j) (by omega) (by omega) (by decide) rfl dX7_makes_96 ?_
        refine j_iinc F (lv' := [(6, .int (iI ((j : Int) + 1))), (0, .ref (ad 0)), (1, .int (iI (k : Int)))]) dX7_makes_97 0 rfl (by decide) rfl ?_
        refine j_goto F (tgt := 61) dX7_makes_100 (by decide) ?_
        refine J.loc [0, 1, 2] rfl ?_
        exact ih61 ((j + 1), nup f1 (5 + j) (u8 j)) (by show (j + 1) ≤ 12 ∧ (∀ i, i < 4 ∨ 16 < i → (nup f1 (5 + j) (u8 j)) i = cC.1 i) ∧ (nup f1 (5 + j) (u8 j)) 4 = (((apL H k q t).length : Nat) : Int) ∧ ∀ i, i < (j + 1) → (nup f1 (5 + j) (u8 j)) (5 + i) = (((apL H k q t).getD i 0 : Nat) : Int); exact ⟨by omega, fun i hi => by rw [nup_n _ _ (by omega)]; exact i2 i hi, by rw [nup_n _ _ (by omega)]; exact i3, fun i hi => (by by_cases w : i = j; (rw [w, nup_s]; first | rfl | exact hbj | exact hz); rw [nup_n _ _ (by omega)]; exact i4 i (by omega))⟩) (by show 12 - (j + 1) < 12 - j; omega)
  · refine j_iload_n F dX7_makes_10 rfl 3 rfl ?_
    refine j_iload_n F dX7_makes_11 rfl 2 rfl ?_
    refine j_icmp_ge F (tgt := 19) dX7_makes_12 (by decide) ⟨(by unfold rg; omega), (by unfold rg; omega)⟩ (fun c12 => ?_) (fun c12 => ?_)
    · refine j_iload_n F dX7_makes_19 rfl 2 rfl ?_
      refine j_istore F (lv' := [(4, .int (iI (q : Int))), (0, .ref (ad 0)), (1, .int (iI (k : Int))), (2, .int (iI (q : Int))), (3, .int (iI (t : Int)))]) dX7_makes_20 (by decide) rfl ?_
      refine j_iload_n F dX7_makes_22 rfl 2 rfl ?_
      refine j_iconst F dX7_makes_23 ?_
      refine j_icmp_ne F (tgt := 36) dX7_makes_24 (by decide) ⟨(by unfold rg; omega), (by unfold rg; omega)⟩ (fun h9 => by exfalso; omega) (fun c24 => ?_)
      refine j_iload_n F dX7_makes_27 rfl 4 rfl ?_
      refine j_iload_n F dX7_makes_28 rfl 3 rfl ?_
      refine j_icmp_ge F (tgt := 36) dX7_makes_29 (by decide) ⟨(by unfold rg; omega), (by unfold rg; omega)⟩ (fun c29 => ?_) (fun h9 => by exfalso; omega)
      refine j_iload_n F dX7_makes_36 rfl 4 rfl ?_
      refine j_istore F (lv' := [(5, .int (iI (t : Int))), (4, .int (iI (q : Int))), (0, .ref (ad 0)), (1, .int (iI (k : Int))), (2, .int (iI (q : Int))), (3, .int (iI (t : Int)))]) dX7_makes_37 (by decide) rfl ?_
      have hgo : goM H k q t := posMv_go hH hm (by omega)
      have eap : apL H k q t = apL H k q t := rfl
      refine j_aload_n F dX7_makes_39 rfl 2 rfl ?_
      refine j_iload_n F dX7_makes_40 rfl 3 rfl ?_
      refine j_iload F dX7_makes_41 1 rfl ?_
      refine j_iload F dX7_makes_43 0 rfl ?_
      refine j_callV_V F (As := [.int (iI (k : Int)), .int (iI (q : Int)), .int (iI (t : Int))]) (wr := []) (st := []) (c_X7_goes hfl D g z ad th cC u9.1 (u9.2.1, ((H.length : Nat) : Int), u9.2.2.1, u9.2.2.2.1, u9.2.2.2.2.1, (((mvL G S M H).length : Nat) : Int), u9.2.2.2.2.2.1, ((H.length : Nat) : Int)) cP H k q t hH hgo h6) (idx := 86) (C := RX7) gX7_makes_X7_goes rfl rfl [0, 1, 2, 3, 4, 5, 6, 7, 8, 9, 10, 11, 12, 13, 14] [] rfl rfl (by decide) (by decide) (by decide) (ci := 7) (q0 := 0) rfl rfl (by decide) (by decide) (le_ble rfl) ⟨by decide, by decide⟩ dX7_makes_45 ?_
      rintro u8 h8
      rw [eap] at h8
      refine J.wsEq (ws2 := moC g ad th cC (u9.1.1, u9.1.2.1, u9.1.2.2.1, u9.1.2.2.2.1, u9.1.2.2.2.2.1, u9.1.2.2.2.2.2.1, u9.1.2.2.2.2.2.2.1, u9.1.2.2.2.2.2.2.2) (u9.2.1, ((H.length : Nat) : Int), u9.2.2.1, u9.2.2.2.1, u9.2.2.2.2.1, (((mvL G S M H).length : Nat) : Int), u8, (((apL H k q t).length : Nat) : Int)) cP) rfl ?_
      refine J.wsEq (ws2 := moC g ad th cC (u9.1.1, u9.1.2.1, u9.1.2.2.1, u9.1.2.2.2.1, u9.1.2.2.2.2.1, u9.1.2.2.2.2.2.1, u9.1.2.2.2.2.2.2.1, u9.1.2.2.2.2.2.2.2) (u9.2.1, ((H.length : Nat) : Int), u9.2.2.1, u9.2.2.2.1, u9.2.2.2.2.1, (((mvL G S M H).length : Nat) : Int), u8, (((apL H k q t).length : Nat) : Int)) cP) (by first | (rw [eap]) | (dsimp only; rw [eap])) ?_
      refine j_aload_n F dX7_makes_48 rfl 2 rfl ?_
      refine j_getf F (ref := "CairnGameModel") (C := RX7) (T := TX7) (N := 27) (ci := 7) (index := 7) (v := .ref (ad 1)) (fun w h => (List.mem_cons_of_mem _ (List.mem_append_right _ h))) 0 rfl rfl 1 (by decide) (List.mem_cons_of_mem _ (List.mem_append_left _ (List.mem_append_left _ (List.mem_of_getElem? (l := wsX7_makes_r1) (i := 0) rfl)))) rfl rfl dX7_makes_49 ?_
      refine j_iconst F dX7_makes_52 ?_
      refine j_aload_n F dX7_makes_53 rfl 2 rfl ?_
      refine j_getf F (ref := "CairnGameModel") (C := RX7) (T := TX7) (N := 27) (ci := 7) (index := 70) (v := .int (iI (((apL H k q t).length : Nat) : Int))) (fun w h => (List.mem_cons_of_mem _ (List.mem_append_right _ h))) 0 rfl rfl 21 (by decide) (List.mem_cons_of_mem _ (List.mem_append_left _ (List.mem_append_left _ (List.mem_of_getElem? (l := wsX7_makes_r1) (i := 1) rfl)))) rfl rfl dX7_makes_54 ?_
      refine j_iast F (ws' := moC g ad th (nup cC.1 4 (((apL H k q t).length : Nat) : Int), cC.2.1, cC.2.2.1, cC.2.2.2.1, cC.2.2.2.2) (u9.1.1, u9.1.2.1, u9.1.2.2.1, u9.1.2.2.2.1, u9.1.2.2.2.2.1, u9.1.2.2.2.2.2.1, u9.1.2.2.2.2.2.2.1, u9.1.2.2.2.2.2.2.2) (u9.2.1, ((H.length : Nat) : Int), u9.2.2.1, u9.2.2.2.1, u9.2.2.2.2.1, (((mvL G S M H).length : Nat) : Int), u8, (((apL H k q t).length : Nat) : Int)) cP) 1 (n := 20) (f := cC.1) rfl 4 (by decide) (by decide) (by decide) rfl dX7_makes_57 ?_
      refine j_iconst F dX7_makes_58 ?_
      refine j_istore F (lv' := [(6, .int (iI 0)), (5, .int (iI (t : Int))), (4, .int (iI (q : Int))), (0, .ref (ad 0)), (1, .int (iI (k : Int))), (2, .int (iI (q : Int))), (3, .int (iI (t : Int)))]) dX7_makes_59 (by decide) rfl ?_
      refine J.loc [0, 3, 4] rfl ?_
      refine J_loop (σ := Nat × NF) (fun x9 : Nat × NF => match x9 with | (j, f1) => j ≤ 12 ∧ (∀ i, i < 4 ∨ 16 < i → f1 i = cC.1 i) ∧ f1 4 = (((apL H k q t).length : Nat) : Int) ∧ ∀ i, i < j → f1 (5 + i) = (((apL H k q t).getD i 0 : Nat) : Int)) (fun x9 : Nat × NF => match x9 with | (j, f1) => 12 - j) (fun x9 : Nat × NF => match x9 with | (j, f1) => moC g ad th (f1, cC.2.1, cC.2.2.1, cC.2.2.2.1, cC.2.2.2.2) (u9.1.1, u9.1.2.1, u9.1.2.2.1, u9.1.2.2.2.1, u9.1.2.2.2.2.1, u9.1.2.2.2.2.2.1, u9.1.2.2.2.2.2.2.1, u9.1.2.2.2.2.2.2.2) (u9.2.1, ((H.length : Nat) : Int), u9.2.2.1, u9.2.2.2.1, u9.2.2.2.2.1, (((mvL G S M H).length : Nat) : Int), u8, (((apL H k q t).length : Nat) : Int)) cP) (fun x9 : Nat × NF => match x9 with | (j, f1) => [(6, .int (iI (j : Int))), (0, .ref (ad 0)), (1, .int (iI (k : Int)))]) (0, (nup cC.1 4 (((apL H k q t).length : Nat) : Int))) (by show 0 ≤ 12 ∧ (∀ i, i < 4 ∨ 16 < i → (nup cC.1 4 (((apL H k q t).length : Nat) : Int)) i = cC.1 i) ∧ (nup cC.1 4 (((apL H k q t).length : Nat) : Int)) 4 = (((apL H k q t).length : Nat) : Int) ∧ ∀ i, i < 0 → (nup cC.1 4 (((apL H k q t).length : Nat) : Int)) (5 + i) = (((apL H k q t).getD i 0 : Nat) : Int); exact ⟨Nat.zero_le _, fun i hi => by rw [nup_n _ _ (by omega)], nup_s _ _ _, fun i hi => absurd hi (Nat.not_lt_zero i)⟩) ?_
      rintro ⟨j, f1⟩ hI ih61
      have hI : j ≤ 12 ∧ (∀ i, i < 4 ∨ 16 < i → f1 i = cC.1 i) ∧ f1 4 = (((apL H k q t).length : Nat) : Int) ∧ ∀ i, i < j → f1 (5 + i) = (((apL H k q t).getD i 0 : Nat) : Int) := hI
      obtain ⟨i1, i2, i3, i4⟩ := hI
      refine j_iload F dX7_makes_61 0 rfl ?_
      refine j_bipush F dX7_makes_63 (by decide) ?_
      refine j_icmp_ge F (tgt := 103) dX7_makes_65 (by decide) ⟨(by unfold rg; omega), (by unfold rg; omega)⟩ (fun c65 => ?_) (fun c65 => ?_)
      · have ej : j = 12 := by omega
        have hF := st_make hk3 hst hal i2 i3 (fun i hi => i4 i (by omega))
        refine j_aload_n F dX7_makes_103 rfl 1 rfl ?_
        refine j_getf F (ref := "CairnGameModel") (C := RX7) (T := TX7) (N := 27) (ci := 7) (index := 7) (v := .ref (ad 1)) (fun w h => (List.mem_cons_of_mem _ (List.mem_append_right _ h))) 0 rfl rfl 1 (by decide) (List.mem_cons_of_mem _ (List.mem_append_left _ (List.mem_append_left _ (List.mem_of_getElem? (l := wsX7_makes_r1) (i := 0) rfl)))) rfl rfl dX7_makes_104 ?_
        refine j_bipush F dX7_makes_107 (by decide) ?_
        refine j_iload_n F dX7_makes_109 rfl 2 rfl ?_
        refine j_iadd F dX7_makes_110 ?_
        refine j_dup2 F dX7_makes_111 rfl rfl ?_
        refine j_iald F 1 (n := 20) (f := f1) rfl (17 + k) (by omega) (by omega) (by decide) dX7_makes_112 ?_
        refine j_iconst F dX7_makes_113 ?_
        refine j_iadd F dX7_makes_114 ?_
        refine j_iast F (ws' := moC g ad th (nup f1 (17 + k) (f1 (17 + k) + 1), cC.2.1, cC.2.2.1, cC.2.2.2.1, cC.2.2.2.2) (u9.1.1, u9.1.2.1, u9.1.2.2.1, u9.1.2.2.2.1, u9.1.2.2.2.2.1, u9.1.2.2.2.2.2.1, u9.1.2.2.2.2.2.2.1, u9.1.2.2.2.2.2.2.2) (u9.2.1, ((H.length : Nat) : Int), u9.2.2.1, u9.2.2.2.1, u9.2.2.2.2.1, (((mvL G S M H).length : Nat) : Int), u8, (((apL H k q t).length : Nat) : Int)) cP) 1 (n := 20) (f := f1) rfl (17 + k) (by omega) (by omega) (by decide) rfl dX7_makes_115 ?_
        exact ret (nup f1 (17 + k) (f1 (17 + k) + 1), u9.1, (u9.2.1, ((H.length : Nat) : Int), u9.2.2.1, u9.2.2.2.1, u9.2.2.2.2.1, (((mvL G S M H).length : Nat) : Int), u8, (((apL H k q t).length : Nat) : Int))) 0 0 _ _ dX7_makes_116 (by decide) (by decide) (⟨hF, h7⟩)
      · refine j_aload_n F dX7_makes_68 rfl 1 rfl ?_
        refine j_getf F (ref := "CairnGameModel") (C := RX7) (T := TX7) (N := 27) (ci := 7) (index := 7) (v := .ref (ad 1)) (fun w h => (List.mem_cons_of_mem _ (List.mem_append_right _ h))) 0 rfl rfl 1 (by decide) (List.mem_cons_of_mem _ (List.mem_append_left _ (List.mem_append_left _ (List.mem_of_getElem? (l := wsX7_makes_r1) (i := 0) rfl)))) rfl rfl dX7_makes_69 ?_
        refine j_iconst F dX7_makes_72 ?_
        refine j_iload F dX7_makes_73 0 rfl ?_
        refine j_iadd F dX7_makes_75 ?_
        refine j_iload F dX7_makes_76 0 rfl ?_
        refine j_aload_n F dX7_makes_78 rfl 1 rfl ?_
        refine j_getf F (ref := "CairnGameModel") (C := RX7) (T := TX7) (N := 27) (ci := 7) (index := 70) (v := .int (iI (((apL H k q t).length : Nat) : Int))) (fun w h => (List.mem_cons_of_mem _ (List.mem_append_right _ h))) 0 rfl rfl 21 (by decide) (List.mem_cons_of_mem _ (List.mem_append_left _ (List.mem_append_left _ (List.mem_of_getElem? (l := wsX7_makes_r1) (i := 1) rfl)))) rfl rfl dX7_makes_79 ?_
        refine j_icmp_ge F (tgt := 95) dX7_makes_82 (by decide) ⟨(by unfold rg; omega), (by unfold rg; omega)⟩ (fun c82 => ?_) (fun c82 => ?_)
        · have hz : (0 : Int) = (((apL H k q t).getD j 0 : Nat) : Int) := by rw [getD_out0 _ j (by omega)]; rfl
          refine j_iconst F dX7_makes_95 ?_
          refine j_iast F (ws' := moC g ad th (nup f1 (5 + j) 0, cC.2.1, cC.2.2.1, cC.2.2.2.1, cC.2.2.2.2) (u9.1.1, u9.1.2.1, u9.1.2.2.1, u9.1.2.2.2.1, u9.1.2.2.2.2.1, u9.1.2.2.2.2.2.1, u9.1.2.2.2.2.2.2.1, u9.1.2.2.2.2.2.2.2) (u9.2.1, ((H.length : Nat) : Int), u9.2.2.1, u9.2.2.2.1, u9.2.2.2.2.1, (((mvL G S M H).length : Nat) : Int), u8, (((apL H k q t).length : Nat) : Int)) cP) 1 (n := 20) (f := f1) rfl (5 + j) (by omega) (by omega) (by decide) rfl dX7_makes_96 ?_
          refine j_iinc F (lv' := [(6, .int (iI ((j : Int) + 1))), (0, .ref (ad 0)), (1, .int (iI (k : Int)))]) dX7_makes_97 0 rfl (by decide) rfl ?_
          refine j_goto F (tgt := 61) dX7_makes_100 (by decide) ?_
          refine J.loc [0, 1, 2] rfl ?_
          exact ih61 ((j + 1), nup f1 (5 + j) 0) (by show (j + 1) ≤ 12 ∧ (∀ i, i < 4 ∨ 16 < i → (nup f1 (5 + j) 0) i = cC.1 i) ∧ (nup f1 (5 + j) 0) 4 = (((apL H k q t).length : Nat) : Int) ∧ ∀ i, i < (j + 1) → (nup f1 (5 + j) 0) (5 + i) = (((apL H k q t).getD i 0 : Nat) : Int); exact ⟨by omega, fun i hi => by rw [nup_n _ _ (by omega)]; exact i2 i hi, by rw [nup_n _ _ (by omega)]; exact i3, fun i hi => (by by_cases w : i = j; (rw [w, nup_s]; first | rfl | exact hbj | exact hz); rw [nup_n _ _ (by omega)]; exact i4 i (by omega))⟩) (by show 12 - (j + 1) < 12 - j; omega)
        · have hbj := h8 j (by omega)
          refine j_aload_n F dX7_makes_85 rfl 1 rfl ?_
          refine j_getf F (ref := "CairnGameModel") (C := RX7) (T := TX7) (N := 27) (ci := 7) (index := 49) (v := .ref (ad 20)) (fun w h => (List.mem_cons_of_mem _ (List.mem_append_right _ h))) 0 rfl rfl 20 (by decide) (List.mem_cons_of_mem _ (List.mem_append_left _ (List.mem_append_left _ (List.mem_of_getElem? (l := wsX7_makes_r1) (i := 2) rfl)))) rfl rfl dX7_makes_86 ?_
          refine j_iload F dX7_makes_89 0 rfl ?_
          refine j_iald F 14 (n := 13) (f := u8) rfl j (rfl) (by omega) (by decide) dX7_makes_91 ?_
          refine j_goto F (tgt := 96) dX7_makes_92 (by decide) ?_
          refine j_iast F (ws' := moC g ad th (nup f1 (5 + j) (u8 j), cC.2.1, cC.2.2.1, cC.2.2.2.1, cC.2.2.2.2) (u9.1.1, u9.1.2.1, u9.1.2.2.1, u9.1.2.2.2.1, u9.1.2.2.2.2.1, u9.1.2.2.2.2.2.1, u9.1.2.2.2.2.2.2.1, u9.1.2.2.2.2.2.2.2) (u9.2.1, ((H.length : Nat) : Int), u9.2.2.1, u9.2.2.2.1, u9.2.2.2.2.1, (((mvL G S M H).length : Nat) : Int), u8, (((apL H k q t).length : Nat) : Int)) cP) 1 (n := 20) (f := f1) rfl (5 + j) (by omega) (by omega) (by decide) rfl dX7_makes_96 ?_
          refine j_iinc F (lv' := [(6, .int (iI ((j : Int) + 1))), (0, .ref (ad 0)), (1, .int (iI (k : Int)))]) dX7_makes_97 0 rfl (by decide) rfl ?_
          refine j_goto F (tgt := 61) dX7_makes_100 (by decide) ?_
          refine J.loc [0, 1, 2] rfl ?_
          exact ih61 ((j + 1), nup f1 (5 + j) (u8 j)) (by show (j + 1) ≤ 12 ∧ (∀ i, i < 4 ∨ 16 < i → (nup f1 (5 + j) (u8 j)) i = cC.1 i) ∧ (nup f1 (5 + j) (u8 j)) 4 = (((apL H k q t).length : Nat) : Int) ∧ ∀ i, i < (j + 1) → (nup f1 (5 + j) (u8 j)) (5 + i) = (((apL H k q t).getD i 0 : Nat) : Int); exact ⟨by omega, fun i hi => by rw [nup_n _ _ (by omega)]; exact i2 i hi, by rw [nup_n _ _ (by omega)]; exact i3, fun i hi => (by by_cases w : i = j; (rw [w, nup_s]; first | rfl | exact hbj | exact hz); rw [nup_n _ _ (by omega)]; exact i4 i (by omega))⟩) (by show 12 - (j + 1) < 12 - j; omega)
    · refine j_iload_n F dX7_makes_15 rfl 3 rfl ?_
      refine j_goto F (tgt := 20) dX7_makes_16 (by decide) ?_
      refine j_istore F (lv' := [(4, .int (iI (t : Int))), (0, .ref (ad 0)), (1, .int (iI (k : Int))), (2, .int (iI (q : Int))), (3, .int (iI (t : Int)))]) dX7_makes_20 (by decide) rfl ?_
      refine j_iload_n F dX7_makes_22 rfl 2 rfl ?_
      refine j_iconst F dX7_makes_23 ?_
      refine j_icmp_ne F (tgt := 36) dX7_makes_24 (by decide) ⟨(by unfold rg; omega), (by unfold rg; omega)⟩ (fun h9 => by exfalso; omega) (fun c24 => ?_)
      refine j_iload_n F dX7_makes_27 rfl 4 rfl ?_
      refine j_iload_n F dX7_makes_28 rfl 3 rfl ?_
      refine j_icmp_ge F (tgt := 36) dX7_makes_29 (by decide) ⟨(by unfold rg; omega), (by unfold rg; omega)⟩ (fun h9 => by exfalso; omega) (fun c29 => ?_)
      refine j_iload_n F dX7_makes_32 rfl 3 rfl ?_
      refine j_goto F (tgt := 37) dX7_makes_33 (by decide) ?_
      refine j_istore F (lv' := [(5, .int (iI (q : Int))), (4, .int (iI (t : Int))), (0, .ref (ad 0)), (1, .int (iI (k : Int))), (2, .int (iI (q : Int))), (3, .int (iI (t : Int)))]) dX7_makes_37 (by decide) rfl ?_
      have hgo : goM H k t q := posMv_go2 hm (by omega) (by omega)
      have eap : apL H k t q = apL H k q t := by rw [show k = 2 by omega]; exact apL_2c H t q
      refine j_aload_n F dX7_makes_39 rfl 2 rfl ?_
      refine j_iload_n F dX7_makes_40 rfl 3 rfl ?_
      refine j_iload F dX7_makes_41 1 rfl ?_
      refine j_iload F dX7_makes_43 0 rfl ?_
      refine j_callV_V F (As := [.int (iI (k : Int)), .int (iI (t : Int)), .int (iI (q : Int))]) (wr := []) (st := []) (c_X7_goes hfl D g z ad th cC u9.1 (u9.2.1, ((H.length : Nat) : Int), u9.2.2.1, u9.2.2.2.1, u9.2.2.2.2.1, (((mvL G S M H).length : Nat) : Int), u9.2.2.2.2.2.1, ((H.length : Nat) : Int)) cP H k t q hH hgo h6) (idx := 86) (C := RX7) gX7_makes_X7_goes rfl rfl [0, 1, 2, 3, 4, 5, 6, 7, 8, 9, 10, 11, 12, 13, 14] [] rfl rfl (by decide) (by decide) (by decide) (ci := 7) (q0 := 0) rfl rfl (by decide) (by decide) (le_ble rfl) ⟨by decide, by decide⟩ dX7_makes_45 ?_
      rintro u8 h8
      rw [eap] at h8
      refine J.wsEq (ws2 := moC g ad th cC (u9.1.1, u9.1.2.1, u9.1.2.2.1, u9.1.2.2.2.1, u9.1.2.2.2.2.1, u9.1.2.2.2.2.2.1, u9.1.2.2.2.2.2.2.1, u9.1.2.2.2.2.2.2.2) (u9.2.1, ((H.length : Nat) : Int), u9.2.2.1, u9.2.2.2.1, u9.2.2.2.2.1, (((mvL G S M H).length : Nat) : Int), u8, (((apL H k t q).length : Nat) : Int)) cP) rfl ?_
      refine J.wsEq (ws2 := moC g ad th cC (u9.1.1, u9.1.2.1, u9.1.2.2.1, u9.1.2.2.2.1, u9.1.2.2.2.2.1, u9.1.2.2.2.2.2.1, u9.1.2.2.2.2.2.2.1, u9.1.2.2.2.2.2.2.2) (u9.2.1, ((H.length : Nat) : Int), u9.2.2.1, u9.2.2.2.1, u9.2.2.2.2.1, (((mvL G S M H).length : Nat) : Int), u8, (((apL H k q t).length : Nat) : Int)) cP) (by first | (rw [eap]) | (dsimp only; rw [eap])) ?_
      refine j_aload_n F dX7_makes_48 rfl 2 rfl ?_
      refine j_getf F (ref := "CairnGameModel") (C := RX7) (T := TX7) (N := 27) (ci := 7) (index := 7) (v := .ref (ad 1)) (fun w h => (List.mem_cons_of_mem _ (List.mem_append_right _ h))) 0 rfl rfl 1 (by decide) (List.mem_cons_of_mem _ (List.mem_append_left _ (List.mem_append_left _ (List.mem_of_getElem? (l := wsX7_makes_r1) (i := 0) rfl)))) rfl rfl dX7_makes_49 ?_
      refine j_iconst F dX7_makes_52 ?_
      refine j_aload_n F dX7_makes_53 rfl 2 rfl ?_
      refine j_getf F (ref := "CairnGameModel") (C := RX7) (T := TX7) (N := 27) (ci := 7) (index := 70) (v := .int (iI (((apL H k q t).length : Nat) : Int))) (fun w h => (List.mem_cons_of_mem _ (List.mem_append_right _ h))) 0 rfl rfl 21 (by decide) (List.mem_cons_of_mem _ (List.mem_append_left _ (List.mem_append_left _ (List.mem_of_getElem? (l := wsX7_makes_r1) (i := 1) rfl)))) rfl rfl dX7_makes_54 ?_
      refine j_iast F (ws' := moC g ad th (nup cC.1 4 (((apL H k q t).length : Nat) : Int), cC.2.1, cC.2.2.1, cC.2.2.2.1, cC.2.2.2.2) (u9.1.1, u9.1.2.1, u9.1.2.2.1, u9.1.2.2.2.1, u9.1.2.2.2.2.1, u9.1.2.2.2.2.2.1, u9.1.2.2.2.2.2.2.1, u9.1.2.2.2.2.2.2.2) (u9.2.1, ((H.length : Nat) : Int), u9.2.2.1, u9.2.2.2.1, u9.2.2.2.2.1, (((mvL G S M H).length : Nat) : Int), u8, (((apL H k q t).length : Nat) : Int)) cP) 1 (n := 20) (f := cC.1) rfl 4 (by decide) (by decide) (by decide) rfl dX7_makes_57 ?_
      refine j_iconst F dX7_makes_58 ?_
      refine j_istore F (lv' := [(6, .int (iI 0)), (5, .int (iI (q : Int))), (4, .int (iI (t : Int))), (0, .ref (ad 0)), (1, .int (iI (k : Int))), (2, .int (iI (q : Int))), (3, .int (iI (t : Int)))]) dX7_makes_59 (by decide) rfl ?_
      refine J.loc [0, 3, 4] rfl ?_
      refine J_loop (σ := Nat × NF) (fun x9 : Nat × NF => match x9 with | (j, f1) => j ≤ 12 ∧ (∀ i, i < 4 ∨ 16 < i → f1 i = cC.1 i) ∧ f1 4 = (((apL H k q t).length : Nat) : Int) ∧ ∀ i, i < j → f1 (5 + i) = (((apL H k q t).getD i 0 : Nat) : Int)) (fun x9 : Nat × NF => match x9 with | (j, f1) => 12 - j) (fun x9 : Nat × NF => match x9 with | (j, f1) => moC g ad th (f1, cC.2.1, cC.2.2.1, cC.2.2.2.1, cC.2.2.2.2) (u9.1.1, u9.1.2.1, u9.1.2.2.1, u9.1.2.2.2.1, u9.1.2.2.2.2.1, u9.1.2.2.2.2.2.1, u9.1.2.2.2.2.2.2.1, u9.1.2.2.2.2.2.2.2) (u9.2.1, ((H.length : Nat) : Int), u9.2.2.1, u9.2.2.2.1, u9.2.2.2.2.1, (((mvL G S M H).length : Nat) : Int), u8, (((apL H k q t).length : Nat) : Int)) cP) (fun x9 : Nat × NF => match x9 with | (j, f1) => [(6, .int (iI (j : Int))), (0, .ref (ad 0)), (1, .int (iI (k : Int)))]) (0, (nup cC.1 4 (((apL H k q t).length : Nat) : Int))) (by show 0 ≤ 12 ∧ (∀ i, i < 4 ∨ 16 < i → (nup cC.1 4 (((apL H k q t).length : Nat) : Int)) i = cC.1 i) ∧ (nup cC.1 4 (((apL H k q t).length : Nat) : Int)) 4 = (((apL H k q t).length : Nat) : Int) ∧ ∀ i, i < 0 → (nup cC.1 4 (((apL H k q t).length : Nat) : Int)) (5 + i) = (((apL H k q t).getD i 0 : Nat) : Int); exact ⟨Nat.zero_le _, fun i hi => by rw [nup_n _ _ (by omega)], nup_s _ _ _, fun i hi => absurd hi (Nat.not_lt_zero i)⟩) ?_
      rintro ⟨j, f1⟩ hI ih61
      have hI : j ≤ 12 ∧ (∀ i, i < 4 ∨ 16 < i → f1 i = cC.1 i) ∧ f1 4 = (((apL H k q t).length : Nat) : Int) ∧ ∀ i, i < j → f1 (5 + i) = (((apL H k q t).getD i 0 : Nat) : Int) := hI
      obtain ⟨i1, i2, i3, i4⟩ := hI
      refine j_iload F dX7_makes_61 0 rfl ?_
      refine j_bipush F dX7_makes_63 (by decide) ?_
      refine j_icmp_ge F (tgt := 103) dX7_makes_65 (by decide) ⟨(by unfold rg; omega), (by unfold rg; omega)⟩ (fun c65 => ?_) (fun c65 => ?_)
      · have ej : j = 12 := by omega
        have hF := st_make hk3 hst hal i2 i3 (fun i hi => i4 i (by omega))
        refine j_aload_n F dX7_makes_103 rfl 1 rfl ?_
        refine j_getf F (ref := "CairnGameModel") (C := RX7) (T := TX7) (N := 27) (ci := 7) (index := 7) (v := .ref (ad 1)) (fun w h => (List.mem_cons_of_mem _ (List.mem_append_right _ h))) 0 rfl rfl 1 (by decide) (List.mem_cons_of_mem _ (List.mem_append_left _ (List.mem_append_left _ (List.mem_of_getElem? (l := wsX7_makes_r1) (i := 0) rfl)))) rfl rfl dX7_makes_104 ?_
        refine j_bipush F dX7_makes_107 (by decide) ?_
        refine j_iload_n F dX7_makes_109 rfl 2 rfl ?_
        refine j_iadd F dX7_makes_110 ?_
        refine j_dup2 F dX7_makes_111 rfl rfl ?_
        refine j_iald F 1 (n := 20) (f := f1) rfl (17 + k) (by omega) (by omega) (by decide) dX7_makes_112 ?_
        refine j_iconst F dX7_makes_113 ?_
        refine j_iadd F dX7_makes_114 ?_
        refine j_iast F (ws' := moC g ad th (nup f1 (17 + k) (f1 (17 + k) + 1), cC.2.1, cC.2.2.1, cC.2.2.2.1, cC.2.2.2.2) (u9.1.1, u9.1.2.1, u9.1.2.2.1, u9.1.2.2.2.1, u9.1.2.2.2.2.1, u9.1.2.2.2.2.2.1, u9.1.2.2.2.2.2.2.1, u9.1.2.2.2.2.2.2.2) (u9.2.1, ((H.length : Nat) : Int), u9.2.2.1, u9.2.2.2.1, u9.2.2.2.2.1, (((mvL G S M H).length : Nat) : Int), u8, (((apL H k q t).length : Nat) : Int)) cP) 1 (n := 20) (f := f1) rfl (17 + k) (by omega) (by omega) (by decide) rfl dX7_makes_115 ?_
        exact ret (nup f1 (17 + k) (f1 (17 + k) + 1), u9.1, (u9.2.1, ((H.length : Nat) : Int), u9.2.2.1, u9.2.2.2.1, u9.2.2.2.2.1, (((mvL G S M H).length : Nat) : Int), u8, (((apL H k q t).length : Nat) : Int))) 0 0 _ _ dX7_makes_116 (by decide) (by decide) (⟨hF, h7⟩)
      · refine j_aload_n F dX7_makes_68 rfl 1 rfl ?_
        refine j_getf F (ref := "CairnGameModel") (C := RX7) (T := TX7) (N := 27) (ci := 7) (index := 7) (v := .ref (ad 1)) (fun w h => (List.mem_cons_of_mem _ (List.mem_append_right _ h))) 0 rfl rfl 1 (by decide) (List.mem_cons_of_mem _ (List.mem_append_left _ (List.mem_append_left _ (List.mem_of_getElem? (l := wsX7_makes_r1) (i := 0) rfl)))) rfl rfl dX7_makes_69 ?_
        refine j_iconst F dX7_makes_72 ?_
        refine j_iload F dX7_makes_73 0 rfl ?_
        refine j_iadd F dX7_makes_75 ?_
        refine j_iload F dX7_makes_76 0 rfl ?_
        refine j_aload_n F dX7_makes_78 rfl 1 rfl ?_
        refine j_getf F (ref := "CairnGameModel") (C := RX7) (T := TX7) (N := 27) (ci := 7) (index := 70) (v := .int (iI (((apL H k q t).length : Nat) : Int))) (fun w h => (List.mem_cons_of_mem _ (List.mem_append_right _ h))) 0 rfl rfl 21 (by decide) (List.mem_cons_of_mem _ (List.mem_append_left _ (List.mem_append_left _ (List.mem_of_getElem? (l := wsX7_makes_r1) (i := 1) rfl)))) rfl rfl dX7_makes_79 ?_
        refine j_icmp_ge F (tgt := 95) dX7_makes_82 (by decide) ⟨(by unfold rg; omega), (by unfold rg; omega)⟩ (fun c82 => ?_) (fun c82 => ?_)
        · have hz : (0 : Int) = (((apL H k q t).getD j 0 : Nat) : Int) := by rw [getD_out0 _ j (by omega)]; rfl
          refine j_iconst F dX7_makes_95 ?_
          refine j_iast F (ws' := moC g ad th (nup f1 (5 + j) 0, cC.2.1, cC.2.2.1, cC.2.2.2.1, cC.2.2.2.2) (u9.1.1, u9.1.2.1, u9.1.2.2.1, u9.1.2.2.2.1, u9.1.2.2.2.2.1, u9.1.2.2.2.2.2.1, u9.1.2.2.2.2.2.2.1, u9.1.2.2.2.2.2.2.2) (u9.2.1, ((H.length : Nat) : Int), u9.2.2.1, u9.2.2.2.1, u9.2.2.2.2.1, (((mvL G S M H).length : Nat) : Int), u8, (((apL H k q t).length : Nat) : Int)) cP) 1 (n := 20) (f := f1) rfl (5 + j) (by omega) (by omega) (by decide) rfl dX7_makes_96 ?_
          refine j_iinc F (lv' := [(6, .int (iI ((j : Int) + 1))), (0, .ref (ad 0)), (1, .int (iI (k : Int)))]) dX7_makes_97 0 rfl (by decide) rfl ?_
          refine j_goto F (tgt := 61) dX7_makes_100 (by decide) ?_
          refine J.loc [0, 1, 2] rfl ?_
          exact ih61 ((j + 1), nup f1 (5 + j) 0) (by show (j + 1) ≤ 12 ∧ (∀ i, i < 4 ∨ 16 < i → (nup f1 (5 + j) 0) i = cC.1 i) ∧ (nup f1 (5 + j) 0) 4 = (((apL H k q t).length : Nat) : Int) ∧ ∀ i, i < (j + 1) → (nup f1 (5 + j) 0) (5 + i) = (((apL H k q t).getD i 0 : Nat) : Int); exact ⟨by omega, fun i hi => by rw [nup_n _ _ (by omega)]; exact i2 i hi, by rw [nup_n _ _ (by omega)]; exact i3, fun i hi => (by by_cases w : i = j; (rw [w, nup_s]; first | rfl | exact hbj | exact hz); rw [nup_n _ _ (by omega)]; exact i4 i (by omega))⟩) (by show 12 - (j + 1) < 12 - j; omega)
        · have hbj := h8 j (by omega)
          refine j_aload_n F dX7_makes_85 rfl 1 rfl ?_
          refine j_getf F (ref := "CairnGameModel") (C := RX7) (T := TX7) (N := 27) (ci := 7) (index := 49) (v := .ref (ad 20)) (fun w h => (List.mem_cons_of_mem _ (List.mem_append_right _ h))) 0 rfl rfl 20 (by decide) (List.mem_cons_of_mem _ (List.mem_append_left _ (List.mem_append_left _ (List.mem_of_getElem? (l := wsX7_makes_r1) (i := 2) rfl)))) rfl rfl dX7_makes_86 ?_
          refine j_iload F dX7_makes_89 0 rfl ?_
          refine j_iald F 14 (n := 13) (f := u8) rfl j (rfl) (by omega) (by decide) dX7_makes_91 ?_
          refine j_goto F (tgt := 96) dX7_makes_92 (by decide) ?_
          refine j_iast F (ws' := moC g ad th (nup f1 (5 + j) (u8 j), cC.2.1, cC.2.2.1, cC.2.2.2.1, cC.2.2.2.2) (u9.1.1, u9.1.2.1, u9.1.2.2.1, u9.1.2.2.2.1, u9.1.2.2.2.2.1, u9.1.2.2.2.2.2.1, u9.1.2.2.2.2.2.2.1, u9.1.2.2.2.2.2.2.2) (u9.2.1, ((H.length : Nat) : Int), u9.2.2.1, u9.2.2.2.1, u9.2.2.2.2.1, (((mvL G S M H).length : Nat) : Int), u8, (((apL H k q t).length : Nat) : Int)) cP) 1 (n := 20) (f := f1) rfl (5 + j) (by omega) (by omega) (by decide) rfl dX7_makes_96 ?_
          refine j_iinc F (lv' := [(6, .int (iI ((j : Int) + 1))), (0, .ref (ad 0)), (1, .int (iI (k : Int)))]) dX7_makes_97 0 rfl (by decide) rfl ?_
          refine j_goto F (tgt := 61) dX7_makes_100 (by decide) ?_
          refine J.loc [0, 1, 2] rfl ?_
          exact ih61 ((j + 1), nup f1 (5 + j) (u8 j)) (by show (j + 1) ≤ 12 ∧ (∀ i, i < 4 ∨ 16 < i → (nup f1 (5 + j) (u8 j)) i = cC.1 i) ∧ (nup f1 (5 + j) (u8 j)) 4 = (((apL H k q t).length : Nat) : Int) ∧ ∀ i, i < (j + 1) → (nup f1 (5 + j) (u8 j)) (5 + i) = (((apL H k q t).getD i 0 : Nat) : Int); exact ⟨by omega, fun i hi => by rw [nup_n _ _ (by omega)]; exact i2 i hi, by rw [nup_n _ _ (by omega)]; exact i3, fun i hi => (by by_cases w : i = j; (rw [w, nup_s]; first | rfl | exact hbj | exact hz); rw [nup_n _ _ (by omega)]; exact i4 i (by omega))⟩) (by show 12 - (j + 1) < 12 - j; omega)

set_option maxHeartbeats 1000000 in
set_option maxRecDepth 100000 in
theorem c_X7_take {l : Launch} (hfl : l.flags = flags0) (D : va_G) (g : GT) (z : ZT) (ad : Nat → Nat) (th : Int) (cC : CT) (cT : TT) (cL : LT) (cP : PT) (H : List Nat) (G S M Nn : Nat) (c3 : C3) (hs : List GS) (x t : Int) (hT : tabS cT) (hH : okH H) (hG : 1 ≤ G ∧ G ≤ 5) (hS : S ≤ 1) (hM : M ≤ 1) (hN : Nn ≤ 1) (hst : stM cC.1 H G S M Nn c3) (hok : ∀ x ∈ hs, okG x) (hh6 : hs.length ≤ 6) (hhs : hisM cC.2.1 hs) (hx : rg x) (ht : rg t) (hm : posMv G S M H 0 x.toNat t.toNat) (hxt : 0 ≤ x ∧ 0 ≤ t) (ht5 : t ≤ 5) : CI l yX7_take wsX7_take 8 187 2 D g z [.ref (ad 0), .int (iI x), .int (iI t)] (moC g ad th (cC.1, cC.2.1, ((hs.length : Nat) : Int), cC.2.2.2.1, cC.2.2.2.2) cT cL cP) (fun (r9 : Int32) (u9 : NF × NF × TT × LT) => ((stM u9.1 (apL H 0 x.toNat t.toNat) G S M Nn (inc3 0 c3) ∧ hisM u9.2.1 (rcH hs (H, G, S, M, Nn, c3))) ∧ tabT G S M u9.2.2.1) ∧ r9 = iI ((sm (apL H 0 x.toNat t.toNat) : Nat) : Int)) (fun (u9 : NF × NF × TT × LT) => moC g ad 0 (u9.1, u9.2.1, (((rcH hs (H, G, S, M, Nn, c3)).length : Nat) : Int), cC.2.2.2.1, cC.2.2.2.2) (u9.2.2.1.1, u9.2.2.1.2.1, u9.2.2.1.2.2.1, u9.2.2.1.2.2.2.1, u9.2.2.1.2.2.2.2.1, u9.2.2.1.2.2.2.2.2.1, u9.2.2.1.2.2.2.2.2.2.1, u9.2.2.1.2.2.2.2.2.2.2) (u9.2.2.2.1, u9.2.2.2.2.1, u9.2.2.2.2.2.1, u9.2.2.2.2.2.2.1, u9.2.2.2.2.2.2.2.1, u9.2.2.2.2.2.2.2.2.1, u9.2.2.2.2.2.2.2.2.2.1, u9.2.2.2.2.2.2.2.2.2.2) cP) 0 0 := by
  refine CI_of hfl (own := RX7) ⟨7, 0, 0, 165⟩ 8 187 2 (by decide +kernel) rfl rfl ⟨by decide, by decide, by decide +kernel⟩ ⟨by decide, by decide⟩ (le_ble rfl) (fun _ _ _ => rfl) ?_
  intro p e s m below meth c A Q F ret
  change J p l e _ s m _ below meth c A D _ Q 0 0 (moC g ad th (cC.1, cC.2.1, ((hs.length : Nat) : Int), cC.2.2.2.1, cC.2.2.2.2) cT cL cP) [(0, .ref (ad 0)), (1, .int (iI x)), (2, .int (iI t))] [] 0
  have hlen := okH_len hH
  have hw : whyTk H G x t = 0 := by obtain ⟨hq, h9 | h9 | h9⟩ := hm; (unfold whyTk; rw [if_neg (by omega), if_neg (by omega), if_neg (by omega)]); (omega); omega
  have hokL := pos_ok hH hm
  refine j_aload_n F dX7_take_0 rfl 0 rfl ?_
  refine j_aload_n F dX7_take_1 rfl 0 rfl ?_
  refine j_iload_n F dX7_take_2 rfl 1 rfl ?_
  refine j_iload_n F dX7_take_3 rfl 2 rfl ?_
  refine j_callV_I F (As := [.int (iI x), .int (iI t)]) (wr := []) (st := [.ref (ad 0)]) (c_X7_whyNoTake hfl D g z ad th (cC.1, cC.2.1, ((hs.length : Nat) : Int), cC.2.2.2.1, cC.2.2.2.2) cT cL cP H G S M Nn c3 x t hH hG hS hM hN hst hx ht) (idx := 132) (C := RX7) gX7_take_X7_whyNoTake rfl rfl [0, 1, 2, 3, 4, 5, 6, 7, 8, 9, 10, 11, 12, 13, 14] [] rfl rfl (by decide) (by decide) (by decide) (ci := 7) (q0 := 0) rfl rfl (by decide) (by decide) (le_ble rfl) ⟨by decide, by decide⟩ dX7_take_4 ?_
  rintro r5 u5 h5
  subst h5
  rw [show ((whyTk H G x t : Nat) : Int) = 0 from by rw [hw]; rfl]
  refine J.wsEq (ws2 := moC g ad th (cC.1, cC.2.1, ((hs.length : Nat) : Int), cC.2.2.2.1, cC.2.2.2.2) cT cL cP) rfl ?_
  refine j_putf F (ref := "CairnGameModel") (C := RX7) (T := TX7) (N := 27) (ci := 7) (index := 60) (ty := .int) (ws' := moC g ad 0 (cC.1, cC.2.1, ((hs.length : Nat) : Int), cC.2.2.2.1, cC.2.2.2.2) cT cL cP) (fun w h => (List.mem_cons_of_mem _ (List.mem_append_right _ h))) tyX7 tyX7_ok nmX7 0 rfl rfl 0 (by decide) (List.mem_cons_of_mem _ (List.mem_append_left _ (List.mem_append_left _ (List.mem_of_getElem? (l := wsX7_take_r1) (i := 0) rfl)))) rfl rfl rfl rfl rfl (lt_ble rfl) rfl dX7_take_7 ?_
  refine j_aload_n F dX7_take_10 rfl 0 rfl ?_
  refine j_getf F (ref := "CairnGameModel") (C := RX7) (T := TX7) (N := 27) (ci := 7) (index := 60) (v := .int (iI 0)) (fun w h => (List.mem_cons_of_mem _ (List.mem_append_right _ h))) 0 rfl rfl 0 (by decide) (List.mem_cons_of_mem _ (List.mem_append_left _ (List.mem_append_left _ (List.mem_of_getElem? (l := wsX7_take_r1) (i := 0) rfl)))) rfl rfl dX7_take_11 ?_
  refine j_if_le F (tgt := 19) dX7_take_14 (by decide) (by unfold rg; omega) (fun c14 => ?_) (fun h9 => by exfalso; omega)
  refine j_aload_n F dX7_take_19 rfl 0 rfl ?_
  refine j_callV_V F (As := []) (wr := []) (st := []) (c_X7_record hfl D g z ad 0 (cC.1, cC.2.1, ((hs.length : Nat) : Int), cC.2.2.2.1, cC.2.2.2.2) cT cL cP hs (H, G, S, M, Nn, c3) hok hh6 hhs hst hlen) (idx := 113) (C := RX7) gX7_take_X7_record rfl rfl [0, 1, 2, 3, 4, 5, 6, 7, 8, 9, 10, 11, 12, 13, 14] [] rfl rfl (by decide) (by decide) (by decide) (ci := 7) (q0 := 0) rfl rfl (by decide) (by decide) (le_ble rfl) ⟨by decide, by decide⟩ dX7_take_20 ?_
  rintro u9 h9
  refine J.wsEq (ws2 := moC g ad 0 (cC.1, u9, (((rcH hs (H, G, S, M, Nn, c3)).length : Nat) : Int), cC.2.2.2.1, cC.2.2.2.2) cT cL cP) rfl ?_
  refine j_aload_n F dX7_take_23 rfl 0 rfl ?_
  refine j_iconst F dX7_take_24 ?_
  refine j_iload_n F dX7_take_25 rfl 1 rfl ?_
  refine J.top (congrArg iI (show x = ((x.toNat : Nat) : Int) from by omega)) ?_
  refine j_iload_n F dX7_take_26 rfl 2 rfl ?_
  refine J.top (congrArg iI (show t = ((t.toNat : Nat) : Int) from by omega)) ?_
  refine j_callV_V F (As := [.int (iI 0), .int (iI ((x.toNat : Nat) : Int)), .int (iI ((t.toNat : Nat) : Int))]) (wr := []) (st := []) (c_X7_makes hfl D g z ad 0 (cC.1, u9, (((rcH hs (H, G, S, M, Nn, c3)).length : Nat) : Int), cC.2.2.2.1, cC.2.2.2.2) cT cL cP H G S M Nn c3 0 x.toNat t.toNat hT hH hG hS hM hN hst hm) (idx := 136) (C := RX7) gX7_take_X7_makes rfl rfl [0, 1, 2, 3, 4, 5, 6, 7, 8, 9, 10, 11, 12, 13, 14] [] rfl rfl (by decide) (by decide) (by decide) (ci := 7) (q0 := 0) rfl rfl (by decide) (by decide) (le_ble rfl) ⟨by decide, by decide⟩ dX7_take_27 ?_
  rintro u4 ⟨h4, h3⟩
  refine J.wsEq (ws2 := moC g ad 0 (u4.1, u9, (((rcH hs (H, G, S, M, Nn, c3)).length : Nat) : Int), cC.2.2.2.1, cC.2.2.2.2) (u4.2.1.1, u4.2.1.2.1, u4.2.1.2.2.1, u4.2.1.2.2.2.1, u4.2.1.2.2.2.2.1, u4.2.1.2.2.2.2.2.1, u4.2.1.2.2.2.2.2.2.1, u4.2.1.2.2.2.2.2.2.2) (u4.2.2.1, u4.2.2.2.1, u4.2.2.2.2.1, u4.2.2.2.2.2.1, u4.2.2.2.2.2.2.1, u4.2.2.2.2.2.2.2.1, u4.2.2.2.2.2.2.2.2.1, u4.2.2.2.2.2.2.2.2.2) cP) rfl ?_
  refine j_aload_n F dX7_take_30 rfl 0 rfl ?_
  refine j_callV_I F (As := []) (wr := []) (st := []) (c_X7_sum hfl D g z ad 0 (u4.1, u9, (((rcH hs (H, G, S, M, Nn, c3)).length : Nat) : Int), cC.2.2.2.1, cC.2.2.2.2) u4.2.1 u4.2.2 cP (apL H 0 x.toNat t.toNat) G S M Nn (inc3 0 c3) hokL hG hS hM hN h4) (idx := 116) (C := RX7) gX7_take_X7_sum rfl rfl [0, 1, 2, 3, 4, 5, 6, 7, 8, 9, 10, 11, 12, 13, 14] [] rfl rfl (by decide) (by decide) (by decide) (ci := 7) (q0 := 0) rfl rfl (by decide) (by decide) (le_ble rfl) ⟨by decide, by decide⟩ dX7_take_31 ?_
  rintro r8 u8 h8
  subst h8
  refine J.wsEq (ws2 := moC g ad 0 (u4.1, u9, (((rcH hs (H, G, S, M, Nn, c3)).length : Nat) : Int), cC.2.2.2.1, cC.2.2.2.2) (u4.2.1.1, u4.2.1.2.1, u4.2.1.2.2.1, u4.2.1.2.2.2.1, u4.2.1.2.2.2.2.1, u4.2.1.2.2.2.2.2.1, u4.2.1.2.2.2.2.2.2.1, u4.2.1.2.2.2.2.2.2.2) (u4.2.2.1, u4.2.2.2.1, u4.2.2.2.2.1, u4.2.2.2.2.2.1, u4.2.2.2.2.2.2.1, u4.2.2.2.2.2.2.2.1, u4.2.2.2.2.2.2.2.2.1, u4.2.2.2.2.2.2.2.2.2) cP) rfl ?_
  exact ret _ (u4.1, u9, u4.2.1, u4.2.2) 0 0 _ _ dX7_take_34 (by decide) (by decide) (⟨⟨⟨h4, h9⟩, h3⟩, rfl⟩)

set_option maxHeartbeats 1000000 in
set_option maxRecDepth 100000 in
theorem c_X7_take_t {l : Launch} (hfl : l.flags = flags0) (D : va_G) (g : GT) (z : ZT) (ad : Nat → Nat) (th : Int) (cC : CT) (cT : TT) (cL : LT) (cP : PT) (H : List Nat) (G S M Nn : Nat) (c3 : C3) (hs : List GS) (x t : Int) (hH : okH H) (hG : 1 ≤ G ∧ G ≤ 5) (hS : S ≤ 1) (hM : M ≤ 1) (hN : Nn ≤ 1) (hst : stM cC.1 H G S M Nn c3) (hok : ∀ x ∈ hs, okG x) (hh6 : hs.length ≤ 6) (hhs : hisM cC.2.1 hs) (hx : rg x) (ht : rg t) (hw : 0 < whyTk H G x t) : CI l yX7_take wsX7_take 8 187 2 D g z [.ref (ad 0), .int (iI x), .int (iI t)] (moC g ad th (cC.1, cC.2.1, ((hs.length : Nat) : Int), cC.2.2.2.1, cC.2.2.2.2) cT cL cP) (fun (r9 : Int32) (u9 : Unit) => True) (fun (u9 : Unit) => moC g ad ((whyTk H G x t : Nat) : Int) (cC.1, cC.2.1, ((hs.length : Nat) : Int), cC.2.2.2.1, cC.2.2.2.2) cT cL cP) 0 0 := by
  refine CI_of hfl (own := RX7) ⟨7, 0, 0, 165⟩ 8 187 2 (by decide +kernel) rfl rfl ⟨by decide, by decide, by decide +kernel⟩ ⟨by decide, by decide⟩ (le_ble rfl) (fun _ _ _ => rfl) ?_
  intro p e s m below meth c A Q F ret
  change J p l e _ s m _ below meth c A D _ Q 0 0 (moC g ad th (cC.1, cC.2.1, ((hs.length : Nat) : Int), cC.2.2.2.1, cC.2.2.2.2) cT cL cP) [(0, .ref (ad 0)), (1, .int (iI x)), (2, .int (iI t))] [] 0
  have hlen := okH_len hH
  have hw3 : whyTk H G x t ≤ 3 := by unfold whyTk; split <;> (try split) <;> (try split) <;> omega
  refine j_aload_n F dX7_take_0 rfl 0 rfl ?_
  refine j_aload_n F dX7_take_1 rfl 0 rfl ?_
  refine j_iload_n F dX7_take_2 rfl 1 rfl ?_
  refine j_iload_n F dX7_take_3 rfl 2 rfl ?_
  refine j_callV_I F (As := [.int (iI x), .int (iI t)]) (wr := []) (st := [.ref (ad 0)]) (c_X7_whyNoTake hfl D g z ad th (cC.1, cC.2.1, ((hs.length : Nat) : Int), cC.2.2.2.1, cC.2.2.2.2) cT cL cP H G S M Nn c3 x t hH hG hS hM hN hst hx ht) (idx := 132) (C := RX7) gX7_take_X7_whyNoTake rfl rfl [0, 1, 2, 3, 4, 5, 6, 7, 8, 9, 10, 11, 12, 13, 14] [] rfl rfl (by decide) (by decide) (by decide) (ci := 7) (q0 := 0) rfl rfl (by decide) (by decide) (le_ble rfl) ⟨by decide, by decide⟩ dX7_take_4 ?_
  rintro r5 u5 h5
  subst h5
  refine J.wsEq (ws2 := moC g ad th (cC.1, cC.2.1, ((hs.length : Nat) : Int), cC.2.2.2.1, cC.2.2.2.2) cT cL cP) rfl ?_
  refine j_putf F (ref := "CairnGameModel") (C := RX7) (T := TX7) (N := 27) (ci := 7) (index := 60) (ty := .int) (ws' := moC g ad (((whyTk H G x t) : Nat) : Int) (cC.1, cC.2.1, ((hs.length : Nat) : Int), cC.2.2.2.1, cC.2.2.2.2) cT cL cP) (fun w h => (List.mem_cons_of_mem _ (List.mem_append_right _ h))) tyX7 tyX7_ok nmX7 0 rfl rfl 0 (by decide) (List.mem_cons_of_mem _ (List.mem_append_left _ (List.mem_append_left _ (List.mem_of_getElem? (l := wsX7_take_r1) (i := 0) rfl)))) rfl rfl rfl rfl rfl (lt_ble rfl) rfl dX7_take_7 ?_
  refine j_aload_n F dX7_take_10 rfl 0 rfl ?_
  refine j_getf F (ref := "CairnGameModel") (C := RX7) (T := TX7) (N := 27) (ci := 7) (index := 60) (v := .int (iI (((whyTk H G x t) : Nat) : Int))) (fun w h => (List.mem_cons_of_mem _ (List.mem_append_right _ h))) 0 rfl rfl 0 (by decide) (List.mem_cons_of_mem _ (List.mem_append_left _ (List.mem_append_left _ (List.mem_of_getElem? (l := wsX7_take_r1) (i := 0) rfl)))) rfl rfl dX7_take_11 ?_
  refine j_if_le F (tgt := 19) dX7_take_14 (by decide) (by have h3 := hw3; unfold rg; omega) (fun h9 => by exfalso; omega) (fun c14 => ?_)
  refine j_iconst F dX7_take_17 ?_
  exact ret _ () 0 0 _ _ dX7_take_18 (by decide) (by decide) trivial

set_option maxHeartbeats 1000000 in
set_option maxRecDepth 100000 in
theorem c_X7_split {l : Launch} (hfl : l.flags = flags0) (D : va_G) (g : GT) (z : ZT) (ad : Nat → Nat) (th : Int) (cC : CT) (cT : TT) (cL : LT) (cP : PT) (H : List Nat) (G S M Nn : Nat) (c3 : C3) (hs : List GS) (x t : Int) (hT : tabS cT) (hH : okH H) (hG : 1 ≤ G ∧ G ≤ 5) (hS : S ≤ 1) (hM : M ≤ 1) (hN : Nn ≤ 1) (hst : stM cC.1 H G S M Nn c3) (hok : ∀ x ∈ hs, okG x) (hh6 : hs.length ≤ 6) (hhs : hisM cC.2.1 hs) (hx : rg x) (ht : rg t) (hm : posMv G S M H 1 x.toNat t.toNat) (hxt : 0 ≤ x ∧ 0 ≤ t) (ht5 : t ≤ 6) : CI l yX7_split wsX7_split 8 187 2 D g z [.ref (ad 0), .int (iI x), .int (iI t)] (moC g ad th (cC.1, cC.2.1, ((hs.length : Nat) : Int), cC.2.2.2.1, cC.2.2.2.2) cT cL cP) (fun (r9 : Int32) (u9 : NF × NF × TT × LT) => ((stM u9.1 (apL H 1 x.toNat t.toNat) G S M Nn (inc3 1 c3) ∧ hisM u9.2.1 (rcH hs (H, G, S, M, Nn, c3))) ∧ tabT G S M u9.2.2.1) ∧ r9 = iI (((apL H 1 x.toNat t.toNat).length : Nat) : Int)) (fun (u9 : NF × NF × TT × LT) => moC g ad 0 (u9.1, u9.2.1, (((rcH hs (H, G, S, M, Nn, c3)).length : Nat) : Int), cC.2.2.2.1, cC.2.2.2.2) (u9.2.2.1.1, u9.2.2.1.2.1, u9.2.2.1.2.2.1, u9.2.2.1.2.2.2.1, u9.2.2.1.2.2.2.2.1, u9.2.2.1.2.2.2.2.2.1, u9.2.2.1.2.2.2.2.2.2.1, u9.2.2.1.2.2.2.2.2.2.2) (u9.2.2.2.1, u9.2.2.2.2.1, u9.2.2.2.2.2.1, u9.2.2.2.2.2.2.1, u9.2.2.2.2.2.2.2.1, u9.2.2.2.2.2.2.2.2.1, u9.2.2.2.2.2.2.2.2.2.1, u9.2.2.2.2.2.2.2.2.2.2) cP) 0 0 := by
  refine CI_of hfl (own := RX7) ⟨7, 0, 0, 165⟩ 8 187 2 (by decide +kernel) rfl rfl ⟨by decide, by decide, by decide +kernel⟩ ⟨by decide, by decide⟩ (le_ble rfl) (fun _ _ _ => rfl) ?_
  intro p e s m below meth c A Q F ret
  change J p l e _ s m _ below meth c A D _ Q 0 0 (moC g ad th (cC.1, cC.2.1, ((hs.length : Nat) : Int), cC.2.2.2.1, cC.2.2.2.2) cT cL cP) [(0, .ref (ad 0)), (1, .int (iI x)), (2, .int (iI t))] [] 0
  have hlen := okH_len hH
  have hw : whySp H S x t = 0 := by obtain ⟨hq, h9 | h9 | h9⟩ := hm; (omega); (unfold whySp; rw [if_neg (by omega), if_neg (by omega), if_neg (by omega)]); omega
  have hokL := pos_ok hH hm
  refine j_aload_n F dX7_split_0 rfl 0 rfl ?_
  refine j_aload_n F dX7_split_1 rfl 0 rfl ?_
  refine j_iload_n F dX7_split_2 rfl 1 rfl ?_
  refine j_iload_n F dX7_split_3 rfl 2 rfl ?_
  refine j_callV_I F (As := [.int (iI x), .int (iI t)]) (wr := []) (st := [.ref (ad 0)]) (c_X7_whyNoSplit hfl D g z ad th (cC.1, cC.2.1, ((hs.length : Nat) : Int), cC.2.2.2.1, cC.2.2.2.2) cT cL cP H G S M Nn c3 x t hH hG hS hM hN hst hx ht) (idx := 139) (C := RX7) gX7_split_X7_whyNoSplit rfl rfl [0, 1, 2, 3, 4, 5, 6, 7, 8, 9, 10, 11, 12, 13, 14] [] rfl rfl (by decide) (by decide) (by decide) (ci := 7) (q0 := 0) rfl rfl (by decide) (by decide) (le_ble rfl) ⟨by decide, by decide⟩ dX7_split_4 ?_
  rintro r5 u5 h5
  subst h5
  rw [show ((whySp H S x t : Nat) : Int) = 0 from by rw [hw]; rfl]
  refine J.wsEq (ws2 := moC g ad th (cC.1, cC.2.1, ((hs.length : Nat) : Int), cC.2.2.2.1, cC.2.2.2.2) cT cL cP) rfl ?_
  refine j_putf F (ref := "CairnGameModel") (C := RX7) (T := TX7) (N := 27) (ci := 7) (index := 60) (ty := .int) (ws' := moC g ad 0 (cC.1, cC.2.1, ((hs.length : Nat) : Int), cC.2.2.2.1, cC.2.2.2.2) cT cL cP) (fun w h => (List.mem_cons_of_mem _ (List.mem_append_right _ h))) tyX7 tyX7_ok nmX7 0 rfl rfl 0 (by decide) (List.mem_cons_of_mem _ (List.mem_append_left _ (List.mem_append_left _ (List.mem_of_getElem? (l := wsX7_split_r1) (i := 0) rfl)))) rfl rfl rfl rfl rfl (lt_ble rfl) rfl dX7_split_7 ?_
  refine j_aload_n F dX7_split_10 rfl 0 rfl ?_
  refine j_getf F (ref := "CairnGameModel") (C := RX7) (T := TX7) (N := 27) (ci := 7) (index := 60) (v := .int (iI 0)) (fun w h => (List.mem_cons_of_mem _ (List.mem_append_right _ h))) 0 rfl rfl 0 (by decide) (List.mem_cons_of_mem _ (List.mem_append_left _ (List.mem_append_left _ (List.mem_of_getElem? (l := wsX7_split_r1) (i := 0) rfl)))) rfl rfl dX7_split_11 ?_
  refine j_if_le F (tgt := 19) dX7_split_14 (by decide) (by unfold rg; omega) (fun c14 => ?_) (fun h9 => by exfalso; omega)
  refine j_aload_n F dX7_split_19 rfl 0 rfl ?_
  refine j_callV_V F (As := []) (wr := []) (st := []) (c_X7_record hfl D g z ad 0 (cC.1, cC.2.1, ((hs.length : Nat) : Int), cC.2.2.2.1, cC.2.2.2.2) cT cL cP hs (H, G, S, M, Nn, c3) hok hh6 hhs hst hlen) (idx := 113) (C := RX7) gX7_split_X7_record rfl rfl [0, 1, 2, 3, 4, 5, 6, 7, 8, 9, 10, 11, 12, 13, 14] [] rfl rfl (by decide) (by decide) (by decide) (ci := 7) (q0 := 0) rfl rfl (by decide) (by decide) (le_ble rfl) ⟨by decide, by decide⟩ dX7_split_20 ?_
  rintro u9 h9
  refine J.wsEq (ws2 := moC g ad 0 (cC.1, u9, (((rcH hs (H, G, S, M, Nn, c3)).length : Nat) : Int), cC.2.2.2.1, cC.2.2.2.2) cT cL cP) rfl ?_
  refine j_aload_n F dX7_split_23 rfl 0 rfl ?_
  refine j_iconst F dX7_split_24 ?_
  refine j_iload_n F dX7_split_25 rfl 1 rfl ?_
  refine J.top (congrArg iI (show x = ((x.toNat : Nat) : Int) from by omega)) ?_
  refine j_iload_n F dX7_split_26 rfl 2 rfl ?_
  refine J.top (congrArg iI (show t = ((t.toNat : Nat) : Int) from by omega)) ?_
  refine j_callV_V F (As := [.int (iI 1), .int (iI ((x.toNat : Nat) : Int)), .int (iI ((t.toNat : Nat) : Int))]) (wr := []) (st := []) (c_X7_makes hfl D g z ad 0 (cC.1, u9, (((rcH hs (H, G, S, M, Nn, c3)).length : Nat) : Int), cC.2.2.2.1, cC.2.2.2.2) cT cL cP H G S M Nn c3 1 x.toNat t.toNat hT hH hG hS hM hN hst hm) (idx := 136) (C := RX7) gX7_split_X7_makes rfl rfl [0, 1, 2, 3, 4, 5, 6, 7, 8, 9, 10, 11, 12, 13, 14] [] rfl rfl (by decide) (by decide) (by decide) (ci := 7) (q0 := 0) rfl rfl (by decide) (by decide) (le_ble rfl) ⟨by decide, by decide⟩ dX7_split_27 ?_
  rintro u4 ⟨h4, h3⟩
  refine J.wsEq (ws2 := moC g ad 0 (u4.1, u9, (((rcH hs (H, G, S, M, Nn, c3)).length : Nat) : Int), cC.2.2.2.1, cC.2.2.2.2) (u4.2.1.1, u4.2.1.2.1, u4.2.1.2.2.1, u4.2.1.2.2.2.1, u4.2.1.2.2.2.2.1, u4.2.1.2.2.2.2.2.1, u4.2.1.2.2.2.2.2.2.1, u4.2.1.2.2.2.2.2.2.2) (u4.2.2.1, u4.2.2.2.1, u4.2.2.2.2.1, u4.2.2.2.2.2.1, u4.2.2.2.2.2.2.1, u4.2.2.2.2.2.2.2.1, u4.2.2.2.2.2.2.2.2.1, u4.2.2.2.2.2.2.2.2.2) cP) rfl ?_
  refine j_aload_n F dX7_split_30 rfl 0 rfl ?_
  refine j_getf F (ref := "CairnGameModel") (C := RX7) (T := TX7) (N := 27) (ci := 7) (index := 7) (v := .ref (ad 1)) (fun w h => (List.mem_cons_of_mem _ (List.mem_append_right _ h))) 0 rfl rfl 1 (by decide) (List.mem_cons_of_mem _ (List.mem_append_left _ (List.mem_append_left _ (List.mem_of_getElem? (l := wsX7_split_r1) (i := 1) rfl)))) rfl rfl dX7_split_31 ?_
  refine j_iconst F dX7_split_34 ?_
  refine j_iald F 1 (n := 20) (f := u4.1) rfl 4 (by decide) (by decide) (by decide) dX7_split_35 ?_
  refine J.top (congrArg iI (show u4.1 4 = (((apL H 1 x.toNat t.toNat).length : Nat) : Int) from h4.2.2.2.2.1)) ?_
  exact ret _ (u4.1, u9, u4.2.1, u4.2.2) 0 0 _ _ dX7_split_36 (by decide) (by decide) (⟨⟨⟨h4, h9⟩, h3⟩, rfl⟩)

set_option maxHeartbeats 1000000 in
set_option maxRecDepth 100000 in
theorem c_X7_split_t {l : Launch} (hfl : l.flags = flags0) (D : va_G) (g : GT) (z : ZT) (ad : Nat → Nat) (th : Int) (cC : CT) (cT : TT) (cL : LT) (cP : PT) (H : List Nat) (G S M Nn : Nat) (c3 : C3) (hs : List GS) (x t : Int) (hH : okH H) (hG : 1 ≤ G ∧ G ≤ 5) (hS : S ≤ 1) (hM : M ≤ 1) (hN : Nn ≤ 1) (hst : stM cC.1 H G S M Nn c3) (hok : ∀ x ∈ hs, okG x) (hh6 : hs.length ≤ 6) (hhs : hisM cC.2.1 hs) (hx : rg x) (ht : rg t) (hw : 0 < whySp H S x t) : CI l yX7_split wsX7_split 8 187 2 D g z [.ref (ad 0), .int (iI x), .int (iI t)] (moC g ad th (cC.1, cC.2.1, ((hs.length : Nat) : Int), cC.2.2.2.1, cC.2.2.2.2) cT cL cP) (fun (r9 : Int32) (u9 : Unit) => True) (fun (u9 : Unit) => moC g ad ((whySp H S x t : Nat) : Int) (cC.1, cC.2.1, ((hs.length : Nat) : Int), cC.2.2.2.1, cC.2.2.2.2) cT cL cP) 0 0 := by
  refine CI_of hfl (own := RX7) ⟨7, 0, 0, 165⟩ 8 187 2 (by decide +kernel) rfl rfl ⟨by decide, by decide, by decide +kernel⟩ ⟨by decide, by decide⟩ (le_ble rfl) (fun _ _ _ => rfl) ?_
  intro p e s m below meth c A Q F ret
  change J p l e _ s m _ below meth c A D _ Q 0 0 (moC g ad th (cC.1, cC.2.1, ((hs.length : Nat) : Int), cC.2.2.2.1, cC.2.2.2.2) cT cL cP) [(0, .ref (ad 0)), (1, .int (iI x)), (2, .int (iI t))] [] 0
  have hlen := okH_len hH
  have hw3 : whySp H S x t ≤ 3 := by unfold whySp; split <;> (try split) <;> (try split) <;> omega
  refine j_aload_n F dX7_split_0 rfl 0 rfl ?_
  refine j_aload_n F dX7_split_1 rfl 0 rfl ?_
  refine j_iload_n F dX7_split_2 rfl 1 rfl ?_
  refine j_iload_n F dX7_split_3 rfl 2 rfl ?_
  refine j_callV_I F (As := [.int (iI x), .int (iI t)]) (wr := []) (st := [.ref (ad 0)]) (c_X7_whyNoSplit hfl D g z ad th (cC.1, cC.2.1, ((hs.length : Nat) : Int), cC.2.2.2.1, cC.2.2.2.2) cT cL cP H G S M Nn c3 x t hH hG hS hM hN hst hx ht) (idx := 139) (C := RX7) gX7_split_X7_whyNoSplit rfl rfl [0, 1, 2, 3, 4, 5, 6, 7, 8, 9, 10, 11, 12, 13, 14] [] rfl rfl (by decide) (by decide) (by decide) (ci := 7) (q0 := 0) rfl rfl (by decide) (by decide) (le_ble rfl) ⟨by decide, by decide⟩ dX7_split_4 ?_
  rintro r5 u5 h5
  subst h5
  refine J.wsEq (ws2 := moC g ad th (cC.1, cC.2.1, ((hs.length : Nat) : Int), cC.2.2.2.1, cC.2.2.2.2) cT cL cP) rfl ?_
  refine j_putf F (ref := "CairnGameModel") (C := RX7) (T := TX7) (N := 27) (ci := 7) (index := 60) (ty := .int) (ws' := moC g ad (((whySp H S x t) : Nat) : Int) (cC.1, cC.2.1, ((hs.length : Nat) : Int), cC.2.2.2.1, cC.2.2.2.2) cT cL cP) (fun w h => (List.mem_cons_of_mem _ (List.mem_append_right _ h))) tyX7 tyX7_ok nmX7 0 rfl rfl 0 (by decide) (List.mem_cons_of_mem _ (List.mem_append_left _ (List.mem_append_left _ (List.mem_of_getElem? (l := wsX7_split_r1) (i := 0) rfl)))) rfl rfl rfl rfl rfl (lt_ble rfl) rfl dX7_split_7 ?_
  refine j_aload_n F dX7_split_10 rfl 0 rfl ?_
  refine j_getf F (ref := "CairnGameModel") (C := RX7) (T := TX7) (N := 27) (ci := 7) (index := 60) (v := .int (iI (((whySp H S x t) : Nat) : Int))) (fun w h => (List.mem_cons_of_mem _ (List.mem_append_right _ h))) 0 rfl rfl 0 (by decide) (List.mem_cons_of_mem _ (List.mem_append_left _ (List.mem_append_left _ (List.mem_of_getElem? (l := wsX7_split_r1) (i := 0) rfl)))) rfl rfl dX7_split_11 ?_
  refine j_if_le F (tgt := 19) dX7_split_14 (by decide) (by have h3 := hw3; unfold rg; omega) (fun h9 => by exfalso; omega) (fun c14 => ?_)
  refine j_iconst F dX7_split_17 ?_
  exact ret _ () 0 0 _ _ dX7_split_18 (by decide) (by decide) trivial

set_option maxHeartbeats 1000000 in
set_option maxRecDepth 100000 in
theorem c_X7_merge {l : Launch} (hfl : l.flags = flags0) (D : va_G) (g : GT) (z : ZT) (ad : Nat → Nat) (th : Int) (cC : CT) (cT : TT) (cL : LT) (cP : PT) (H : List Nat) (G S M Nn : Nat) (c3 : C3) (hs : List GS) (x t : Int) (hT : tabS cT) (hH : okH H) (hG : 1 ≤ G ∧ G ≤ 5) (hS : S ≤ 1) (hM : M ≤ 1) (hN : Nn ≤ 1) (hst : stM cC.1 H G S M Nn c3) (hok : ∀ x ∈ hs, okG x) (hh6 : hs.length ≤ 6) (hhs : hisM cC.2.1 hs) (hx : rg x) (ht : rg t) (hm : posMv G S M H 2 x.toNat t.toNat) (hxt : 0 ≤ x ∧ 0 ≤ t)  : CI l yX7_merge wsX7_merge 8 187 2 D g z [.ref (ad 0), .int (iI x), .int (iI t)] (moC g ad th (cC.1, cC.2.1, ((hs.length : Nat) : Int), cC.2.2.2.1, cC.2.2.2.2) cT cL cP) (fun (r9 : Int32) (u9 : NF × NF × TT × LT) => ((stM u9.1 (apL H 2 x.toNat t.toNat) G S M Nn (inc3 2 c3) ∧ hisM u9.2.1 (rcH hs (H, G, S, M, Nn, c3))) ∧ tabT G S M u9.2.2.1) ∧ r9 = iI (((apL H 2 x.toNat t.toNat).getD (min x t).toNat 0 : Nat) : Int)) (fun (u9 : NF × NF × TT × LT) => moC g ad 0 (u9.1, u9.2.1, (((rcH hs (H, G, S, M, Nn, c3)).length : Nat) : Int), cC.2.2.2.1, cC.2.2.2.2) (u9.2.2.1.1, u9.2.2.1.2.1, u9.2.2.1.2.2.1, u9.2.2.1.2.2.2.1, u9.2.2.1.2.2.2.2.1, u9.2.2.1.2.2.2.2.2.1, u9.2.2.1.2.2.2.2.2.2.1, u9.2.2.1.2.2.2.2.2.2.2) (u9.2.2.2.1, u9.2.2.2.2.1, u9.2.2.2.2.2.1, u9.2.2.2.2.2.2.1, u9.2.2.2.2.2.2.2.1, u9.2.2.2.2.2.2.2.2.1, u9.2.2.2.2.2.2.2.2.2.1, u9.2.2.2.2.2.2.2.2.2.2) cP) 0 0 := by
  refine CI_of hfl (own := RX7) ⟨7, 0, 0, 165⟩ 8 187 2 (by decide +kernel) rfl rfl ⟨by decide, by decide, by decide +kernel⟩ ⟨by decide, by decide⟩ (le_ble rfl) (fun _ _ _ => rfl) ?_
  intro p e s m below meth c A Q F ret
  change J p l e _ s m _ below meth c A D _ Q 0 0 (moC g ad th (cC.1, cC.2.1, ((hs.length : Nat) : Int), cC.2.2.2.1, cC.2.2.2.2) cT cL cP) [(0, .ref (ad 0)), (1, .int (iI x)), (2, .int (iI t))] [] 0
  have hlen := okH_len hH
  have hml : (min x t).toNat < (apL H 2 x.toNat t.toNat).length := by have h9 := apL2_lt hm; omega
  have hw : whyMg H M x t = 0 := by obtain ⟨hq, h9 | h9 | h9⟩ := hm; (omega); (omega); unfold whyMg; rw [if_neg (by omega), if_neg (by omega), if_pos (by omega)]
  have hokL := pos_ok hH hm
  refine j_aload_n F dX7_merge_0 rfl 0 rfl ?_
  refine j_aload_n F dX7_merge_1 rfl 0 rfl ?_
  refine j_iload_n F dX7_merge_2 rfl 1 rfl ?_
  refine j_iload_n F dX7_merge_3 rfl 2 rfl ?_
  refine j_callV_I F (As := [.int (iI x), .int (iI t)]) (wr := []) (st := [.ref (ad 0)]) (c_X7_whyNoMerge hfl D g z ad th (cC.1, cC.2.1, ((hs.length : Nat) : Int), cC.2.2.2.1, cC.2.2.2.2) cT cL cP H G S M Nn c3 x t hH hG hS hM hN hst hx ht) (idx := 142) (C := RX7) gX7_merge_X7_whyNoMerge rfl rfl [0, 1, 2, 3, 4, 5, 6, 7, 8, 9, 10, 11, 12, 13, 14] [] rfl rfl (by decide) (by decide) (by decide) (ci := 7) (q0 := 0) rfl rfl (by decide) (by decide) (le_ble rfl) ⟨by decide, by decide⟩ dX7_merge_4 ?_
  rintro r5 u5 h5
  subst h5
  rw [show ((whyMg H M x t : Nat) : Int) = 0 from by rw [hw]; rfl]
  refine J.wsEq (ws2 := moC g ad th (cC.1, cC.2.1, ((hs.length : Nat) : Int), cC.2.2.2.1, cC.2.2.2.2) cT cL cP) rfl ?_
  refine j_putf F (ref := "CairnGameModel") (C := RX7) (T := TX7) (N := 27) (ci := 7) (index := 60) (ty := .int) (ws' := moC g ad 0 (cC.1, cC.2.1, ((hs.length : Nat) : Int), cC.2.2.2.1, cC.2.2.2.2) cT cL cP) (fun w h => (List.mem_cons_of_mem _ (List.mem_append_right _ h))) tyX7 tyX7_ok nmX7 0 rfl rfl 0 (by decide) (List.mem_cons_of_mem _ (List.mem_append_left _ (List.mem_append_left _ (List.mem_of_getElem? (l := wsX7_merge_r1) (i := 0) rfl)))) rfl rfl rfl rfl rfl (lt_ble rfl) rfl dX7_merge_7 ?_
  refine j_aload_n F dX7_merge_10 rfl 0 rfl ?_
  refine j_getf F (ref := "CairnGameModel") (C := RX7) (T := TX7) (N := 27) (ci := 7) (index := 60) (v := .int (iI 0)) (fun w h => (List.mem_cons_of_mem _ (List.mem_append_right _ h))) 0 rfl rfl 0 (by decide) (List.mem_cons_of_mem _ (List.mem_append_left _ (List.mem_append_left _ (List.mem_of_getElem? (l := wsX7_merge_r1) (i := 0) rfl)))) rfl rfl dX7_merge_11 ?_
  refine j_if_le F (tgt := 19) dX7_merge_14 (by decide) (by unfold rg; omega) (fun c14 => ?_) (fun h9 => by exfalso; omega)
  refine j_aload_n F dX7_merge_19 rfl 0 rfl ?_
  refine j_callV_V F (As := []) (wr := []) (st := []) (c_X7_record hfl D g z ad 0 (cC.1, cC.2.1, ((hs.length : Nat) : Int), cC.2.2.2.1, cC.2.2.2.2) cT cL cP hs (H, G, S, M, Nn, c3) hok hh6 hhs hst hlen) (idx := 113) (C := RX7) gX7_merge_X7_record rfl rfl [0, 1, 2, 3, 4, 5, 6, 7, 8, 9, 10, 11, 12, 13, 14] [] rfl rfl (by decide) (by decide) (by decide) (ci := 7) (q0 := 0) rfl rfl (by decide) (by decide) (le_ble rfl) ⟨by decide, by decide⟩ dX7_merge_20 ?_
  rintro u9 h9
  refine J.wsEq (ws2 := moC g ad 0 (cC.1, u9, (((rcH hs (H, G, S, M, Nn, c3)).length : Nat) : Int), cC.2.2.2.1, cC.2.2.2.2) cT cL cP) rfl ?_
  refine j_aload_n F dX7_merge_23 rfl 0 rfl ?_
  refine j_iconst F dX7_merge_24 ?_
  refine j_iload_n F dX7_merge_25 rfl 1 rfl ?_
  refine J.top (congrArg iI (show x = ((x.toNat : Nat) : Int) from by omega)) ?_
  refine j_iload_n F dX7_merge_26 rfl 2 rfl ?_
  refine J.top (congrArg iI (show t = ((t.toNat : Nat) : Int) from by omega)) ?_
  refine j_callV_V F (As := [.int (iI 2), .int (iI ((x.toNat : Nat) : Int)), .int (iI ((t.toNat : Nat) : Int))]) (wr := []) (st := []) (c_X7_makes hfl D g z ad 0 (cC.1, u9, (((rcH hs (H, G, S, M, Nn, c3)).length : Nat) : Int), cC.2.2.2.1, cC.2.2.2.2) cT cL cP H G S M Nn c3 2 x.toNat t.toNat hT hH hG hS hM hN hst hm) (idx := 136) (C := RX7) gX7_merge_X7_makes rfl rfl [0, 1, 2, 3, 4, 5, 6, 7, 8, 9, 10, 11, 12, 13, 14] [] rfl rfl (by decide) (by decide) (by decide) (ci := 7) (q0 := 0) rfl rfl (by decide) (by decide) (le_ble rfl) ⟨by decide, by decide⟩ dX7_merge_27 ?_
  rintro u4 ⟨h4, h3⟩
  refine J.wsEq (ws2 := moC g ad 0 (u4.1, u9, (((rcH hs (H, G, S, M, Nn, c3)).length : Nat) : Int), cC.2.2.2.1, cC.2.2.2.2) (u4.2.1.1, u4.2.1.2.1, u4.2.1.2.2.1, u4.2.1.2.2.2.1, u4.2.1.2.2.2.2.1, u4.2.1.2.2.2.2.2.1, u4.2.1.2.2.2.2.2.2.1, u4.2.1.2.2.2.2.2.2.2) (u4.2.2.1, u4.2.2.2.1, u4.2.2.2.2.1, u4.2.2.2.2.2.1, u4.2.2.2.2.2.2.1, u4.2.2.2.2.2.2.2.1, u4.2.2.2.2.2.2.2.2.1, u4.2.2.2.2.2.2.2.2.2) cP) rfl ?_
  refine j_aload_n F dX7_merge_30 rfl 0 rfl ?_
  refine j_getf F (ref := "CairnGameModel") (C := RX7) (T := TX7) (N := 27) (ci := 7) (index := 7) (v := .ref (ad 1)) (fun w h => (List.mem_cons_of_mem _ (List.mem_append_right _ h))) 0 rfl rfl 1 (by decide) (List.mem_cons_of_mem _ (List.mem_append_left _ (List.mem_append_left _ (List.mem_of_getElem? (l := wsX7_merge_r1) (i := 1) rfl)))) rfl rfl dX7_merge_31 ?_
  refine j_iconst F dX7_merge_34 ?_
  refine j_iload_n F dX7_merge_35 rfl 1 rfl ?_
  refine j_iload_n F dX7_merge_36 rfl 2 rfl ?_
  refine j_icmp_ge F (tgt := 44) dX7_merge_37 (by decide) ⟨(by assumption), (by assumption)⟩ (fun c37 => ?_) (fun c37 => ?_)
  · refine j_iload_n F dX7_merge_44 rfl 2 rfl ?_
    refine j_iadd F dX7_merge_45 ?_
    refine J.top (congrArg iI (show (5 + t) = (((5 + (min x t).toNat) : Nat) : Int) from by omega)) ?_
    refine j_iald F 1 (n := 20) (f := u4.1) rfl (5 + (min x t).toNat) (by omega) (by have := okH_len hokL; omega) (by decide) dX7_merge_46 ?_
    refine J.top (congrArg iI (show u4.1 (5 + (min x t).toNat) = ((((apL H 2 x.toNat t.toNat).getD (min x t).toNat 0) : Nat) : Int) from h4.2.2.2.2.2.1 _ hml)) ?_
    exact ret _ (u4.1, u9, u4.2.1, u4.2.2) 0 0 _ _ dX7_merge_47 (by decide) (by decide) (⟨⟨⟨h4, h9⟩, h3⟩, rfl⟩)
  · refine j_iload_n F dX7_merge_40 rfl 1 rfl ?_
    refine j_goto F (tgt := 45) dX7_merge_41 (by decide) ?_
    refine j_iadd F dX7_merge_45 ?_
    refine J.top (congrArg iI (show (5 + x) = (((5 + (min x t).toNat) : Nat) : Int) from by omega)) ?_
    refine j_iald F 1 (n := 20) (f := u4.1) rfl (5 + (min x t).toNat) (by omega) (by have := okH_len hokL; omega) (by decide) dX7_merge_46 ?_
    refine J.top (congrArg iI (show u4.1 (5 + (min x t).toNat) = ((((apL H 2 x.toNat t.toNat).getD (min x t).toNat 0) : Nat) : Int) from h4.2.2.2.2.2.1 _ hml)) ?_
    exact ret _ (u4.1, u9, u4.2.1, u4.2.2) 0 0 _ _ dX7_merge_47 (by decide) (by decide) (⟨⟨⟨h4, h9⟩, h3⟩, rfl⟩)

set_option maxHeartbeats 1000000 in
set_option maxRecDepth 100000 in
theorem c_X7_merge_t {l : Launch} (hfl : l.flags = flags0) (D : va_G) (g : GT) (z : ZT) (ad : Nat → Nat) (th : Int) (cC : CT) (cT : TT) (cL : LT) (cP : PT) (H : List Nat) (G S M Nn : Nat) (c3 : C3) (hs : List GS) (x t : Int) (hH : okH H) (hG : 1 ≤ G ∧ G ≤ 5) (hS : S ≤ 1) (hM : M ≤ 1) (hN : Nn ≤ 1) (hst : stM cC.1 H G S M Nn c3) (hok : ∀ x ∈ hs, okG x) (hh6 : hs.length ≤ 6) (hhs : hisM cC.2.1 hs) (hx : rg x) (ht : rg t) (hw : 0 < whyMg H M x t) : CI l yX7_merge wsX7_merge 8 187 2 D g z [.ref (ad 0), .int (iI x), .int (iI t)] (moC g ad th (cC.1, cC.2.1, ((hs.length : Nat) : Int), cC.2.2.2.1, cC.2.2.2.2) cT cL cP) (fun (r9 : Int32) (u9 : Unit) => True) (fun (u9 : Unit) => moC g ad ((whyMg H M x t : Nat) : Int) (cC.1, cC.2.1, ((hs.length : Nat) : Int), cC.2.2.2.1, cC.2.2.2.2) cT cL cP) 0 0 := by
  refine CI_of hfl (own := RX7) ⟨7, 0, 0, 165⟩ 8 187 2 (by decide +kernel) rfl rfl ⟨by decide, by decide, by decide +kernel⟩ ⟨by decide, by decide⟩ (le_ble rfl) (fun _ _ _ => rfl) ?_
  intro p e s m below meth c A Q F ret
  change J p l e _ s m _ below meth c A D _ Q 0 0 (moC g ad th (cC.1, cC.2.1, ((hs.length : Nat) : Int), cC.2.2.2.1, cC.2.2.2.2) cT cL cP) [(0, .ref (ad 0)), (1, .int (iI x)), (2, .int (iI t))] [] 0
  have hlen := okH_len hH
  have hw3 : whyMg H M x t ≤ 3 := by unfold whyMg; split <;> (try split) <;> (try split) <;> omega
  refine j_aload_n F dX7_merge_0 rfl 0 rfl ?_
  refine j_aload_n F dX7_merge_1 rfl 0 rfl ?_
  refine j_iload_n F dX7_merge_2 rfl 1 rfl ?_
  refine j_iload_n F dX7_merge_3 rfl 2 rfl ?_
  refine j_callV_I F (As := [.int (iI x), .int (iI t)]) (wr := []) (st := [.ref (ad 0)]) (c_X7_whyNoMerge hfl D g z ad th (cC.1, cC.2.1, ((hs.length : Nat) : Int), cC.2.2.2.1, cC.2.2.2.2) cT cL cP H G S M Nn c3 x t hH hG hS hM hN hst hx ht) (idx := 142) (C := RX7) gX7_merge_X7_whyNoMerge rfl rfl [0, 1, 2, 3, 4, 5, 6, 7, 8, 9, 10, 11, 12, 13, 14] [] rfl rfl (by decide) (by decide) (by decide) (ci := 7) (q0 := 0) rfl rfl (by decide) (by decide) (le_ble rfl) ⟨by decide, by decide⟩ dX7_merge_4 ?_
  rintro r5 u5 h5
  subst h5
  refine J.wsEq (ws2 := moC g ad th (cC.1, cC.2.1, ((hs.length : Nat) : Int), cC.2.2.2.1, cC.2.2.2.2) cT cL cP) rfl ?_
  refine j_putf F (ref := "CairnGameModel") (C := RX7) (T := TX7) (N := 27) (ci := 7) (index := 60) (ty := .int) (ws' := moC g ad (((whyMg H M x t) : Nat) : Int) (cC.1, cC.2.1, ((hs.length : Nat) : Int), cC.2.2.2.1, cC.2.2.2.2) cT cL cP) (fun w h => (List.mem_cons_of_mem _ (List.mem_append_right _ h))) tyX7 tyX7_ok nmX7 0 rfl rfl 0 (by decide) (List.mem_cons_of_mem _ (List.mem_append_left _ (List.mem_append_left _ (List.mem_of_getElem? (l := wsX7_merge_r1) (i := 0) rfl)))) rfl rfl rfl rfl rfl (lt_ble rfl) rfl dX7_merge_7 ?_
  refine j_aload_n F dX7_merge_10 rfl 0 rfl ?_
  refine j_getf F (ref := "CairnGameModel") (C := RX7) (T := TX7) (N := 27) (ci := 7) (index := 60) (v := .int (iI (((whyMg H M x t) : Nat) : Int))) (fun w h => (List.mem_cons_of_mem _ (List.mem_append_right _ h))) 0 rfl rfl 0 (by decide) (List.mem_cons_of_mem _ (List.mem_append_left _ (List.mem_append_left _ (List.mem_of_getElem? (l := wsX7_merge_r1) (i := 0) rfl)))) rfl rfl dX7_merge_11 ?_
  refine j_if_le F (tgt := 19) dX7_merge_14 (by decide) (by have h3 := hw3; unfold rg; omega) (fun h9 => by exfalso; omega) (fun c14 => ?_)
  refine j_iconst F dX7_merge_17 ?_
  exact ret _ () 0 0 _ _ dX7_merge_18 (by decide) (by decide) trivial

set_option maxHeartbeats 1000000 in
set_option maxRecDepth 100000 in
theorem c_X7_asksMove {l : Launch} (hfl : l.flags = flags0) (D : va_G) (g : GT) (z : ZT) (ad : Nat → Nat) (th : Int) (cC : CT) (cT : TT) (cL : LT) (cP : PT) (H : List Nat) (G S M Nn : Nat) (c3 : C3) (x : Int) (hT : tabS cT) (hH : okH H) (hG : 1 ≤ G ∧ G ≤ 5) (hS : S ≤ 1) (hM : M ≤ 1) (hN : Nn ≤ 1) (hst : stM cC.1 H G S M Nn c3) (hx : rg x) (hi : (0 ≤ x ∧ x < (((mvL G S M H).length : Nat) : Int))) : CI l yX7_asksMove wsX7_asksMove 7 160 1 D g z [.ref (ad 0), .int (iI x)] (moC g ad th cC cT cL cP) (fun (r9 : Int32) (u9 : TT × NF × NF × NF × NF × NF × Nat) => (posT.getD u9.2.2.2.2.2.2 [] = sortL H ∧ u9.2.2.2.2.2.2 < 272 ∧ tabT G S M u9.1 ∧ rep u9.2.1 H ∧ mrep3 (mvL G S M H) u9.2.2.1 u9.2.2.2.1 u9.2.2.2.2.1 ∧ bhR u9.2.2.2.2.2.1 (sortL H)) ∧ r9 = iI 1) (fun (u9 : TT × NF × NF × NF × NF × NF × Nat) => moC g ad 0 cC (u9.1.1, u9.1.2.1, u9.1.2.2.1, u9.1.2.2.2.1, u9.1.2.2.2.2.1, u9.1.2.2.2.2.2.1, u9.1.2.2.2.2.2.2.1, u9.1.2.2.2.2.2.2.2) (u9.2.1, ((H.length : Nat) : Int), u9.2.2.1, u9.2.2.2.1, u9.2.2.2.2.1, (((mvL G S M H).length : Nat) : Int), u9.2.2.2.2.2.1, ((H.length : Nat) : Int)) cP) 0 0 := by
  refine CI_of hfl (own := RX7) ⟨6, 0, 0, 139⟩ 7 160 1 (by decide +kernel) rfl rfl ⟨by decide, by decide, by decide +kernel⟩ ⟨by decide, by decide⟩ (le_ble rfl) (fun _ _ h => nar_01 h.2 (by omega)) ?_
  intro p e s m below meth c A Q F ret
  change J p l e _ s m _ below meth c A D _ Q 0 0 (moC g ad th cC cT cL cP) [(0, .ref (ad 0)), (1, .int (iI x))] [] 0
  have hlen := okH_len hH
  have hl84 := mvL_len (g := G) (sp := S) (mg := M) hH
  refine j_aload_n F dX7_asksMove_0 rfl 0 rfl ?_
  refine j_callV_I F (As := []) (wr := []) (st := []) (c_X7_looks hfl D g z ad th cC cT cL cP H G S M Nn c3 hT hH hG hS hM hN hst) (idx := 129) (C := RX7) gX7_asksMove_X7_looks rfl rfl [0, 1, 2, 3, 4, 5, 6, 7, 8, 9, 10, 11, 12, 13, 14] [] rfl rfl (by decide) (by decide) (by decide) (ci := 7) (q0 := 0) rfl rfl (by decide) (by decide) (le_ble rfl) ⟨by decide, by decide⟩ dX7_asksMove_1 ?_
  rintro r9 u9 ⟨h9, q9, e9, h7, h6, h5, h4⟩
  subst h9
  refine J.wsEq (ws2 := moC g ad th cC (u9.1.1, u9.1.2.1, u9.1.2.2.1, u9.1.2.2.2.1, u9.1.2.2.2.2.1, u9.1.2.2.2.2.2.1, u9.1.2.2.2.2.2.2.1, u9.1.2.2.2.2.2.2.2) (u9.2.1, ((H.length : Nat) : Int), u9.2.2.1, u9.2.2.2.1, u9.2.2.2.2.1, (((mvL G S M H).length : Nat) : Int), u9.2.2.2.2.2.1, ((H.length : Nat) : Int)) cP) rfl ?_
  refine j_pop F dX7_asksMove_4 rfl ?_
  refine j_aload_n F dX7_asksMove_5 rfl 0 rfl ?_
  refine j_iload_n F dX7_asksMove_6 rfl 1 rfl ?_
  refine j_iconst F dX7_asksMove_7 ?_
  refine j_aload_n F dX7_asksMove_8 rfl 0 rfl ?_
  refine j_getf F (ref := "CairnGameModel") (C := RX7) (T := TX7) (N := 27) (ci := 7) (index := 76) (v := .int (iI (((mvL G S M H).length : Nat) : Int))) (fun w h => (List.mem_cons_of_mem _ (List.mem_append_right _ h))) 0 rfl rfl 19 (by decide) (List.mem_cons_of_mem _ (List.mem_append_left _ (List.mem_append_left _ (List.mem_of_getElem? (l := wsX7_asksMove_r1) (i := 0) rfl)))) rfl rfl dX7_asksMove_9 ?_
  refine j_iconst F dX7_asksMove_12 ?_
  refine j_isub F dX7_asksMove_13 ?_
  refine j_callS_I F (As := [.int (iI x), .int (iI 0), .int (iI ((((mvL G S M H).length : Nat) : Int) - 1))]) (wr := moC g ad th cC (u9.1.1, u9.1.2.1, u9.1.2.2.1, u9.1.2.2.2.1, u9.1.2.2.2.2.1, u9.1.2.2.2.2.2.1, u9.1.2.2.2.2.2.2.1, u9.1.2.2.2.2.2.2.2) (u9.2.1, ((H.length : Nat) : Int), u9.2.2.1, u9.2.2.2.1, u9.2.2.2.2.1, (((mvL G S M H).length : Nat) : Int), u9.2.2.2.2.2.1, ((H.length : Nat) : Int)) cP) (st := [.ref (ad 0)]) (c_X7_within hfl D g z x 0 ((((mvL G S M H).length : Nat) : Int) - 1) hx (by unfold rg; omega) (by unfold rg; omega)) (idx := 119) gX7_asksMove_X7_within rfl [] [0, 1, 2, 3, 4, 5, 6, 7, 8, 9, 10, 11, 12, 13, 14] rfl rfl (by decide) (by decide) (by decide)  (by decide) (by decide) (le_ble rfl) ⟨by decide, by decide⟩ dX7_asksMove_14 ?_
  rintro r3 u3 h3
  subst h3
  refine J.wsEq (ws2 := moC g ad th cC (u9.1.1, u9.1.2.1, u9.1.2.2.1, u9.1.2.2.2.1, u9.1.2.2.2.2.1, u9.1.2.2.2.2.2.1, u9.1.2.2.2.2.2.2.1, u9.1.2.2.2.2.2.2.2) (u9.2.1, ((H.length : Nat) : Int), u9.2.2.1, u9.2.2.2.1, u9.2.2.2.2.1, (((mvL G S M H).length : Nat) : Int), u9.2.2.2.2.2.1, ((H.length : Nat) : Int)) cP) rfl ?_
  refine j_ifb_eq F (tgt := 24) dX7_asksMove_17 (by decide)  (fun h9 => by exfalso; omega) (fun c17 => ?_)
  refine j_iconst F dX7_asksMove_20 ?_
  refine j_goto F (tgt := 25) dX7_asksMove_21 (by decide) ?_
  refine j_putf F (ref := "CairnGameModel") (C := RX7) (T := TX7) (N := 27) (ci := 7) (index := 60) (ty := .int) (ws' := moC g ad 0 cC (u9.1.1, u9.1.2.1, u9.1.2.2.1, u9.1.2.2.2.1, u9.1.2.2.2.2.1, u9.1.2.2.2.2.2.1, u9.1.2.2.2.2.2.2.1, u9.1.2.2.2.2.2.2.2) (u9.2.1, ((H.length : Nat) : Int), u9.2.2.1, u9.2.2.2.1, u9.2.2.2.2.1, (((mvL G S M H).length : Nat) : Int), u9.2.2.2.2.2.1, ((H.length : Nat) : Int)) cP) (fun w h => (List.mem_cons_of_mem _ (List.mem_append_right _ h))) tyX7 tyX7_ok nmX7 0 rfl rfl 0 (by decide) (List.mem_cons_of_mem _ (List.mem_append_left _ (List.mem_append_left _ (List.mem_of_getElem? (l := wsX7_asksMove_r1) (i := 1) rfl)))) rfl rfl rfl rfl rfl (lt_ble rfl) rfl dX7_asksMove_25 ?_
  refine j_aload_n F dX7_asksMove_28 rfl 0 rfl ?_
  refine j_getf F (ref := "CairnGameModel") (C := RX7) (T := TX7) (N := 27) (ci := 7) (index := 60) (v := .int (iI 0)) (fun w h => (List.mem_cons_of_mem _ (List.mem_append_right _ h))) 0 rfl rfl 0 (by decide) (List.mem_cons_of_mem _ (List.mem_append_left _ (List.mem_append_left _ (List.mem_of_getElem? (l := wsX7_asksMove_r1) (i := 1) rfl)))) rfl rfl dX7_asksMove_29 ?_
  refine j_if_ne F (tgt := 39) dX7_asksMove_32 (by decide) (by unfold rg; omega) (fun h9 => by exfalso; omega) (fun c32 => ?_)
  refine j_iconst F dX7_asksMove_35 ?_
  refine j_goto F (tgt := 40) dX7_asksMove_36 (by decide) ?_
  exact ret _ u9 0 0 _ _ dX7_asksMove_40 (by decide) (by decide) (⟨⟨e9, q9, h7, h6, h5, h4⟩, rfl⟩)

set_option maxHeartbeats 1000000 in
set_option maxRecDepth 100000 in
theorem c_X7_asksMove_t {l : Launch} (hfl : l.flags = flags0) (D : va_G) (g : GT) (z : ZT) (ad : Nat → Nat) (th : Int) (cC : CT) (cT : TT) (cL : LT) (cP : PT) (H : List Nat) (G S M Nn : Nat) (c3 : C3) (x : Int) (hT : tabS cT) (hH : okH H) (hG : 1 ≤ G ∧ G ≤ 5) (hS : S ≤ 1) (hM : M ≤ 1) (hN : Nn ≤ 1) (hst : stM cC.1 H G S M Nn c3) (hx : rg x) (hi : ¬ (0 ≤ x ∧ x < (((mvL G S M H).length : Nat) : Int))) : CI l yX7_asksMove wsX7_asksMove 7 160 1 D g z [.ref (ad 0), .int (iI x)] (moC g ad th cC cT cL cP) (fun (r9 : Int32) (u9 : TT × NF × NF × NF × NF × NF × Nat) => (posT.getD u9.2.2.2.2.2.2 [] = sortL H ∧ u9.2.2.2.2.2.2 < 272 ∧ tabT G S M u9.1 ∧ rep u9.2.1 H ∧ mrep3 (mvL G S M H) u9.2.2.1 u9.2.2.2.1 u9.2.2.2.2.1 ∧ bhR u9.2.2.2.2.2.1 (sortL H)) ∧ r9 = iI 0) (fun (u9 : TT × NF × NF × NF × NF × NF × Nat) => moC g ad 1 cC (u9.1.1, u9.1.2.1, u9.1.2.2.1, u9.1.2.2.2.1, u9.1.2.2.2.2.1, u9.1.2.2.2.2.2.1, u9.1.2.2.2.2.2.2.1, u9.1.2.2.2.2.2.2.2) (u9.2.1, ((H.length : Nat) : Int), u9.2.2.1, u9.2.2.2.1, u9.2.2.2.2.1, (((mvL G S M H).length : Nat) : Int), u9.2.2.2.2.2.1, ((H.length : Nat) : Int)) cP) 0 0 := by
  refine CI_of hfl (own := RX7) ⟨6, 0, 0, 139⟩ 7 160 1 (by decide +kernel) rfl rfl ⟨by decide, by decide, by decide +kernel⟩ ⟨by decide, by decide⟩ (le_ble rfl) (fun _ _ h => nar_01 h.2 (by omega)) ?_
  intro p e s m below meth c A Q F ret
  change J p l e _ s m _ below meth c A D _ Q 0 0 (moC g ad th cC cT cL cP) [(0, .ref (ad 0)), (1, .int (iI x))] [] 0
  have hlen := okH_len hH
  have hl84 := mvL_len (g := G) (sp := S) (mg := M) hH
  refine j_aload_n F dX7_asksMove_0 rfl 0 rfl ?_
  refine j_callV_I F (As := []) (wr := []) (st := []) (c_X7_looks hfl D g z ad th cC cT cL cP H G S M Nn c3 hT hH hG hS hM hN hst) (idx := 129) (C := RX7) gX7_asksMove_X7_looks rfl rfl [0, 1, 2, 3, 4, 5, 6, 7, 8, 9, 10, 11, 12, 13, 14] [] rfl rfl (by decide) (by decide) (by decide) (ci := 7) (q0 := 0) rfl rfl (by decide) (by decide) (le_ble rfl) ⟨by decide, by decide⟩ dX7_asksMove_1 ?_
  rintro r9 u9 ⟨h9, q9, e9, h7, h6, h5, h4⟩
  subst h9
  refine J.wsEq (ws2 := moC g ad th cC (u9.1.1, u9.1.2.1, u9.1.2.2.1, u9.1.2.2.2.1, u9.1.2.2.2.2.1, u9.1.2.2.2.2.2.1, u9.1.2.2.2.2.2.2.1, u9.1.2.2.2.2.2.2.2) (u9.2.1, ((H.length : Nat) : Int), u9.2.2.1, u9.2.2.2.1, u9.2.2.2.2.1, (((mvL G S M H).length : Nat) : Int), u9.2.2.2.2.2.1, ((H.length : Nat) : Int)) cP) rfl ?_
  refine j_pop F dX7_asksMove_4 rfl ?_
  refine j_aload_n F dX7_asksMove_5 rfl 0 rfl ?_
  refine j_iload_n F dX7_asksMove_6 rfl 1 rfl ?_
  refine j_iconst F dX7_asksMove_7 ?_
  refine j_aload_n F dX7_asksMove_8 rfl 0 rfl ?_
  refine j_getf F (ref := "CairnGameModel") (C := RX7) (T := TX7) (N := 27) (ci := 7) (index := 76) (v := .int (iI (((mvL G S M H).length : Nat) : Int))) (fun w h => (List.mem_cons_of_mem _ (List.mem_append_right _ h))) 0 rfl rfl 19 (by decide) (List.mem_cons_of_mem _ (List.mem_append_left _ (List.mem_append_left _ (List.mem_of_getElem? (l := wsX7_asksMove_r1) (i := 0) rfl)))) rfl rfl dX7_asksMove_9 ?_
  refine j_iconst F dX7_asksMove_12 ?_
  refine j_isub F dX7_asksMove_13 ?_
  refine j_callS_I F (As := [.int (iI x), .int (iI 0), .int (iI ((((mvL G S M H).length : Nat) : Int) - 1))]) (wr := moC g ad th cC (u9.1.1, u9.1.2.1, u9.1.2.2.1, u9.1.2.2.2.1, u9.1.2.2.2.2.1, u9.1.2.2.2.2.2.1, u9.1.2.2.2.2.2.2.1, u9.1.2.2.2.2.2.2.2) (u9.2.1, ((H.length : Nat) : Int), u9.2.2.1, u9.2.2.2.1, u9.2.2.2.2.1, (((mvL G S M H).length : Nat) : Int), u9.2.2.2.2.2.1, ((H.length : Nat) : Int)) cP) (st := [.ref (ad 0)]) (c_X7_within hfl D g z x 0 ((((mvL G S M H).length : Nat) : Int) - 1) hx (by unfold rg; omega) (by unfold rg; omega)) (idx := 119) gX7_asksMove_X7_within rfl [] [0, 1, 2, 3, 4, 5, 6, 7, 8, 9, 10, 11, 12, 13, 14] rfl rfl (by decide) (by decide) (by decide)  (by decide) (by decide) (le_ble rfl) ⟨by decide, by decide⟩ dX7_asksMove_14 ?_
  rintro r3 u3 h3
  subst h3
  refine J.wsEq (ws2 := moC g ad th cC (u9.1.1, u9.1.2.1, u9.1.2.2.1, u9.1.2.2.2.1, u9.1.2.2.2.2.1, u9.1.2.2.2.2.2.1, u9.1.2.2.2.2.2.2.1, u9.1.2.2.2.2.2.2.2) (u9.2.1, ((H.length : Nat) : Int), u9.2.2.1, u9.2.2.2.1, u9.2.2.2.2.1, (((mvL G S M H).length : Nat) : Int), u9.2.2.2.2.2.1, ((H.length : Nat) : Int)) cP) rfl ?_
  refine j_ifb_eq F (tgt := 24) dX7_asksMove_17 (by decide)  (fun c17 => ?_) (fun h9 => by exfalso; omega)
  refine j_iconst F dX7_asksMove_24 ?_
  refine j_putf F (ref := "CairnGameModel") (C := RX7) (T := TX7) (N := 27) (ci := 7) (index := 60) (ty := .int) (ws' := moC g ad 1 cC (u9.1.1, u9.1.2.1, u9.1.2.2.1, u9.1.2.2.2.1, u9.1.2.2.2.2.1, u9.1.2.2.2.2.2.1, u9.1.2.2.2.2.2.2.1, u9.1.2.2.2.2.2.2.2) (u9.2.1, ((H.length : Nat) : Int), u9.2.2.1, u9.2.2.2.1, u9.2.2.2.2.1, (((mvL G S M H).length : Nat) : Int), u9.2.2.2.2.2.1, ((H.length : Nat) : Int)) cP) (fun w h => (List.mem_cons_of_mem _ (List.mem_append_right _ h))) tyX7 tyX7_ok nmX7 0 rfl rfl 0 (by decide) (List.mem_cons_of_mem _ (List.mem_append_left _ (List.mem_append_left _ (List.mem_of_getElem? (l := wsX7_asksMove_r1) (i := 1) rfl)))) rfl rfl rfl rfl rfl (lt_ble rfl) rfl dX7_asksMove_25 ?_
  refine j_aload_n F dX7_asksMove_28 rfl 0 rfl ?_
  refine j_getf F (ref := "CairnGameModel") (C := RX7) (T := TX7) (N := 27) (ci := 7) (index := 60) (v := .int (iI 1)) (fun w h => (List.mem_cons_of_mem _ (List.mem_append_right _ h))) 0 rfl rfl 0 (by decide) (List.mem_cons_of_mem _ (List.mem_append_left _ (List.mem_append_left _ (List.mem_of_getElem? (l := wsX7_asksMove_r1) (i := 1) rfl)))) rfl rfl dX7_asksMove_29 ?_
  refine j_if_ne F (tgt := 39) dX7_asksMove_32 (by decide) (by unfold rg; omega) (fun c32 => ?_) (fun h9 => by exfalso; omega)
  refine j_iconst F dX7_asksMove_39 ?_
  exact ret _ u9 0 0 _ _ dX7_asksMove_40 (by decide) (by decide) (⟨⟨e9, q9, h7, h6, h5, h4⟩, rfl⟩)

set_option maxHeartbeats 1000000 in
set_option maxRecDepth 100000 in
theorem c_X7_make {l : Launch} (hfl : l.flags = flags0) (D : va_G) (g : GT) (z : ZT) (ad : Nat → Nat) (th : Int) (cC : CT) (cT : TT) (cL : LT) (cP : PT) (H : List Nat) (G S M Nn : Nat) (c3 : C3) (hs : List GS) (x : Int) (hT : tabS cT) (hH : okH H) (hG : 1 ≤ G ∧ G ≤ 5) (hS : S ≤ 1) (hM : M ≤ 1) (hN : Nn ≤ 1) (hst : stM cC.1 H G S M Nn c3) (hok : ∀ x ∈ hs, okG x) (hh6 : hs.length ≤ 6) (hhs : hisM cC.2.1 hs) (hx : rg x) (hi : (0 ≤ x ∧ x < (((mvL G S M H).length : Nat) : Int))) : CI l yX7_make wsX7_make 8 187 1 D g z [.ref (ad 0), .int (iI x)] (moC g ad th (cC.1, cC.2.1, ((hs.length : Nat) : Int), cC.2.2.2.1, cC.2.2.2.2) cT cL cP) (fun (r9 : Int32) (u9 : NF × NF × TT × LT) => ((stM u9.1 (apL H ((mvL G S M H).getD x.toNat m0).1 ((mvL G S M H).getD x.toNat m0).2.1 ((mvL G S M H).getD x.toNat m0).2.2) G S M Nn (inc3 ((mvL G S M H).getD x.toNat m0).1 c3) ∧ hisM u9.2.1 (rcH hs (H, G, S, M, Nn, c3))) ∧ tabT G S M u9.2.2.1) ∧ r9 = iI ((((mvL G S M H).getD x.toNat m0).1 : Nat) : Int)) (fun (u9 : NF × NF × TT × LT) => moC g ad 0 (u9.1, u9.2.1, (((rcH hs (H, G, S, M, Nn, c3)).length : Nat) : Int), cC.2.2.2.1, cC.2.2.2.2) (u9.2.2.1.1, u9.2.2.1.2.1, u9.2.2.1.2.2.1, u9.2.2.1.2.2.2.1, u9.2.2.1.2.2.2.2.1, u9.2.2.1.2.2.2.2.2.1, u9.2.2.1.2.2.2.2.2.2.1, u9.2.2.1.2.2.2.2.2.2.2) (u9.2.2.2.1, u9.2.2.2.2.1, u9.2.2.2.2.2.1, u9.2.2.2.2.2.2.1, u9.2.2.2.2.2.2.2.1, u9.2.2.2.2.2.2.2.2.1, u9.2.2.2.2.2.2.2.2.2.1, u9.2.2.2.2.2.2.2.2.2.2) cP) 0 0 := by
  refine CI_of hfl (own := RX7) ⟨7, 0, 0, 165⟩ 8 187 1 (by decide +kernel) rfl rfl ⟨by decide, by decide, by decide +kernel⟩ ⟨by decide, by decide⟩ (le_ble rfl) (fun _ _ _ => rfl) ?_
  intro p e s m below meth c A Q F ret
  change J p l e _ s m _ below meth c A D _ Q 0 0 (moC g ad th (cC.1, cC.2.1, ((hs.length : Nat) : Int), cC.2.2.2.1, cC.2.2.2.2) cT cL cP) [(0, .ref (ad 0)), (1, .int (iI x))] [] 0
  have hlen := okH_len hH
  have hl84 := mvL_len (g := G) (sp := S) (mg := M) hH
  refine j_aload_n F dX7_make_0 rfl 0 rfl ?_
  refine j_iload_n F dX7_make_1 rfl 1 rfl ?_
  refine j_callV_I F (As := [.int (iI x)]) (wr := []) (st := []) (c_X7_asksMove hfl D g z ad th (cC.1, cC.2.1, ((hs.length : Nat) : Int), cC.2.2.2.1, cC.2.2.2.2) cT cL cP H G S M Nn c3 x hT hH hG hS hM hN hst hx hi) (idx := 145) (C := RX7) gX7_make_X7_asksMove rfl rfl [0, 1, 2, 3, 4, 5, 6, 7, 8, 9, 10, 11, 12, 13, 14] [] rfl rfl (by decide) (by decide) (by decide) (ci := 7) (q0 := 0) rfl rfl (by decide) (by decide) (le_ble rfl) ⟨by decide, by decide⟩ dX7_make_2 ?_
  rintro r9 u9 ⟨⟨e9, q9, h7, h6, h5, h4⟩, h9⟩
  subst h9
  refine J.wsEq (ws2 := moC g ad 0 (cC.1, cC.2.1, ((hs.length : Nat) : Int), cC.2.2.2.1, cC.2.2.2.2) (u9.1.1, u9.1.2.1, u9.1.2.2.1, u9.1.2.2.2.1, u9.1.2.2.2.2.1, u9.1.2.2.2.2.2.1, u9.1.2.2.2.2.2.2.1, u9.1.2.2.2.2.2.2.2) (u9.2.1, ((H.length : Nat) : Int), u9.2.2.1, u9.2.2.2.1, u9.2.2.2.2.1, (((mvL G S M H).length : Nat) : Int), u9.2.2.2.2.2.1, ((H.length : Nat) : Int)) cP) rfl ?_
  refine j_if_ne F (tgt := 10) dX7_make_5 (by decide) (by unfold rg; omega) (fun c5 => ?_) (fun h9 => by exfalso; omega)
  refine j_aload_n F dX7_make_10 rfl 0 rfl ?_
  refine j_callV_V F (As := []) (wr := []) (st := []) (c_X7_record hfl D g z ad 0 (cC.1, cC.2.1, ((hs.length : Nat) : Int), cC.2.2.2.1, cC.2.2.2.2) u9.1 (u9.2.1, ((H.length : Nat) : Int), u9.2.2.1, u9.2.2.2.1, u9.2.2.2.2.1, (((mvL G S M H).length : Nat) : Int), u9.2.2.2.2.2.1, ((H.length : Nat) : Int)) cP hs (H, G, S, M, Nn, c3) hok hh6 hhs hst hlen) (idx := 113) (C := RX7) gX7_make_X7_record rfl rfl [0, 1, 2, 3, 4, 5, 6, 7, 8, 9, 10, 11, 12, 13, 14] [] rfl rfl (by decide) (by decide) (by decide) (ci := 7) (q0 := 0) rfl rfl (by decide) (by decide) (le_ble rfl) ⟨by decide, by decide⟩ dX7_make_11 ?_
  rintro u8 h8
  refine J.wsEq (ws2 := moC g ad 0 (cC.1, u8, (((rcH hs (H, G, S, M, Nn, c3)).length : Nat) : Int), cC.2.2.2.1, cC.2.2.2.2) (u9.1.1, u9.1.2.1, u9.1.2.2.1, u9.1.2.2.2.1, u9.1.2.2.2.2.1, u9.1.2.2.2.2.2.1, u9.1.2.2.2.2.2.2.1, u9.1.2.2.2.2.2.2.2) (u9.2.1, ((H.length : Nat) : Int), u9.2.2.1, u9.2.2.2.1, u9.2.2.2.2.1, (((mvL G S M H).length : Nat) : Int), u9.2.2.2.2.2.1, ((H.length : Nat) : Int)) cP) rfl ?_
  obtain ⟨e1, e2, e3⟩ := h5 x.toNat (by omega)
  refine j_aload_n F dX7_make_14 rfl 0 rfl ?_
  refine j_getf F (ref := "CairnGameModel") (C := RX7) (T := TX7) (N := 27) (ci := 7) (index := 40) (v := .ref (ad 16)) (fun w h => (List.mem_cons_of_mem _ (List.mem_append_right _ h))) 0 rfl rfl 16 (by decide) (List.mem_cons_of_mem _ (List.mem_append_left _ (List.mem_append_left _ (List.mem_of_getElem? (l := wsX7_make_r1) (i := 0) rfl)))) rfl rfl dX7_make_15 ?_
  refine j_iload_n F dX7_make_18 rfl 1 rfl ?_
  refine j_iald F 11 (n := 100) (f := u9.2.2.1) rfl x.toNat (by omega) (by omega) (by decide) dX7_make_19 ?_
  refine J.top (congrArg iI (show u9.2.2.1 x.toNat = ((((mvL G S M H).getD x.toNat m0).1 : Nat) : Int) from e1)) ?_
  refine j_istore_n F (lv' := [(2, .int (iI ((((mvL G S M H).getD x.toNat m0).1 : Nat) : Int))), (0, .ref (ad 0)), (1, .int (iI x))]) dX7_make_20 rfl (by decide) rfl ?_
  refine j_aload_n F dX7_make_21 rfl 1 rfl ?_
  refine j_iload_n F dX7_make_22 rfl 0 rfl ?_
  refine j_aload_n F dX7_make_23 rfl 1 rfl ?_
  refine j_getf F (ref := "CairnGameModel") (C := RX7) (T := TX7) (N := 27) (ci := 7) (index := 43) (v := .ref (ad 17)) (fun w h => (List.mem_cons_of_mem _ (List.mem_append_right _ h))) 0 rfl rfl 17 (by decide) (List.mem_cons_of_mem _ (List.mem_append_left _ (List.mem_append_left _ (List.mem_of_getElem? (l := wsX7_make_r1) (i := 1) rfl)))) rfl rfl dX7_make_24 ?_
  refine j_iload_n F dX7_make_27 rfl 2 rfl ?_
  refine j_iald F 12 (n := 100) (f := u9.2.2.2.1) rfl x.toNat (by omega) (by omega) (by decide) dX7_make_28 ?_
  refine J.top (congrArg iI (show u9.2.2.2.1 x.toNat = ((((mvL G S M H).getD x.toNat m0).2.1 : Nat) : Int) from e2)) ?_
  refine j_aload_n F dX7_make_29 rfl 1 rfl ?_
  refine j_getf F (ref := "CairnGameModel") (C := RX7) (T := TX7) (N := 27) (ci := 7) (index := 46) (v := .ref (ad 18)) (fun w h => (List.mem_cons_of_mem _ (List.mem_append_right _ h))) 0 rfl rfl 18 (by decide) (List.mem_cons_of_mem _ (List.mem_append_left _ (List.mem_append_left _ (List.mem_of_getElem? (l := wsX7_make_r1) (i := 2) rfl)))) rfl rfl dX7_make_30 ?_
  refine j_iload_n F dX7_make_33 rfl 2 rfl ?_
  refine j_iald F 13 (n := 100) (f := u9.2.2.2.2.1) rfl x.toNat (by omega) (by omega) (by decide) dX7_make_34 ?_
  refine J.top (congrArg iI (show u9.2.2.2.2.1 x.toNat = ((((mvL G S M H).getD x.toNat m0).2.2 : Nat) : Int) from e3)) ?_
  refine j_callV_V F (As := [.int (iI ((((mvL G S M H).getD x.toNat m0).1 : Nat) : Int)), .int (iI ((((mvL G S M H).getD x.toNat m0).2.1 : Nat) : Int)), .int (iI ((((mvL G S M H).getD x.toNat m0).2.2 : Nat) : Int))]) (wr := []) (st := []) (c_X7_makes hfl D g z ad 0 (cC.1, u8, (((rcH hs (H, G, S, M, Nn, c3)).length : Nat) : Int), cC.2.2.2.1, cC.2.2.2.2) u9.1 (u9.2.1, ((H.length : Nat) : Int), u9.2.2.1, u9.2.2.2.1, u9.2.2.2.2.1, (((mvL G S M H).length : Nat) : Int), u9.2.2.2.2.2.1, ((H.length : Nat) : Int)) cP H G S M Nn c3 ((mvL G S M H).getD x.toNat m0).1 ((mvL G S M H).getD x.toNat m0).2.1 ((mvL G S M H).getD x.toNat m0).2.2 (tabT_S hG.2 hS hM h7) hH hG hS hM hN hst (okM_pos (mv_ok (by omega)))) (idx := 136) (C := RX7) gX7_make_X7_makes rfl rfl [0, 1, 2, 3, 4, 5, 6, 7, 8, 9, 10, 11, 12, 13, 14] [] rfl rfl (by decide) (by decide) (by decide) (ci := 7) (q0 := 0) rfl rfl (by decide) (by decide) (le_ble rfl) ⟨by decide, by decide⟩ dX7_make_35 ?_
  rintro u3 ⟨h3, h2⟩
  refine J.wsEq (ws2 := moC g ad 0 (u3.1, u8, (((rcH hs (H, G, S, M, Nn, c3)).length : Nat) : Int), cC.2.2.2.1, cC.2.2.2.2) (u3.2.1.1, u3.2.1.2.1, u3.2.1.2.2.1, u3.2.1.2.2.2.1, u3.2.1.2.2.2.2.1, u3.2.1.2.2.2.2.2.1, u3.2.1.2.2.2.2.2.2.1, u3.2.1.2.2.2.2.2.2.2) (u3.2.2.1, u3.2.2.2.1, u3.2.2.2.2.1, u3.2.2.2.2.2.1, u3.2.2.2.2.2.2.1, u3.2.2.2.2.2.2.2.1, u3.2.2.2.2.2.2.2.2.1, u3.2.2.2.2.2.2.2.2.2) cP) rfl ?_
  refine j_iload_n F dX7_make_38 rfl 0 rfl ?_
  exact ret _ (u3.1, u8, u3.2.1, u3.2.2) 0 0 _ _ dX7_make_39 (by decide) (by decide) (⟨⟨⟨h3, h8⟩, h2⟩, rfl⟩)

set_option maxHeartbeats 1000000 in
set_option maxRecDepth 100000 in
theorem c_X7_make_t {l : Launch} (hfl : l.flags = flags0) (D : va_G) (g : GT) (z : ZT) (ad : Nat → Nat) (th : Int) (cC : CT) (cT : TT) (cL : LT) (cP : PT) (H : List Nat) (G S M Nn : Nat) (c3 : C3) (hs : List GS) (x : Int) (hT : tabS cT) (hH : okH H) (hG : 1 ≤ G ∧ G ≤ 5) (hS : S ≤ 1) (hM : M ≤ 1) (hN : Nn ≤ 1) (hst : stM cC.1 H G S M Nn c3) (hok : ∀ x ∈ hs, okG x) (hh6 : hs.length ≤ 6) (hhs : hisM cC.2.1 hs) (hx : rg x) (hi : ¬ (0 ≤ x ∧ x < (((mvL G S M H).length : Nat) : Int))) : CI l yX7_make wsX7_make 8 187 1 D g z [.ref (ad 0), .int (iI x)] (moC g ad th (cC.1, cC.2.1, ((hs.length : Nat) : Int), cC.2.2.2.1, cC.2.2.2.2) cT cL cP) (fun (r9 : Int32) (u9 : TT × NF × NF × NF × NF × NF × Nat) => tabT G S M u9.1) (fun (u9 : TT × NF × NF × NF × NF × NF × Nat) => moC g ad 1 (cC.1, cC.2.1, ((hs.length : Nat) : Int), cC.2.2.2.1, cC.2.2.2.2) (u9.1.1, u9.1.2.1, u9.1.2.2.1, u9.1.2.2.2.1, u9.1.2.2.2.2.1, u9.1.2.2.2.2.2.1, u9.1.2.2.2.2.2.2.1, u9.1.2.2.2.2.2.2.2) (u9.2.1, ((H.length : Nat) : Int), u9.2.2.1, u9.2.2.2.1, u9.2.2.2.2.1, (((mvL G S M H).length : Nat) : Int), u9.2.2.2.2.2.1, ((H.length : Nat) : Int)) cP) 0 0 := by
  refine CI_of hfl (own := RX7) ⟨7, 0, 0, 165⟩ 8 187 1 (by decide +kernel) rfl rfl ⟨by decide, by decide, by decide +kernel⟩ ⟨by decide, by decide⟩ (le_ble rfl) (fun _ _ _ => rfl) ?_
  intro p e s m below meth c A Q F ret
  change J p l e _ s m _ below meth c A D _ Q 0 0 (moC g ad th (cC.1, cC.2.1, ((hs.length : Nat) : Int), cC.2.2.2.1, cC.2.2.2.2) cT cL cP) [(0, .ref (ad 0)), (1, .int (iI x))] [] 0
  have hlen := okH_len hH
  have hl84 := mvL_len (g := G) (sp := S) (mg := M) hH
  refine j_aload_n F dX7_make_0 rfl 0 rfl ?_
  refine j_iload_n F dX7_make_1 rfl 1 rfl ?_
  refine j_callV_I F (As := [.int (iI x)]) (wr := []) (st := []) (c_X7_asksMove_t hfl D g z ad th (cC.1, cC.2.1, ((hs.length : Nat) : Int), cC.2.2.2.1, cC.2.2.2.2) cT cL cP H G S M Nn c3 x hT hH hG hS hM hN hst hx hi) (idx := 145) (C := RX7) gX7_make_X7_asksMove rfl rfl [0, 1, 2, 3, 4, 5, 6, 7, 8, 9, 10, 11, 12, 13, 14] [] rfl rfl (by decide) (by decide) (by decide) (ci := 7) (q0 := 0) rfl rfl (by decide) (by decide) (le_ble rfl) ⟨by decide, by decide⟩ dX7_make_2 ?_
  rintro r9 u9 ⟨⟨e9, q9, h7, h6, h5, h4⟩, h9⟩
  subst h9
  refine J.wsEq (ws2 := moC g ad 1 (cC.1, cC.2.1, ((hs.length : Nat) : Int), cC.2.2.2.1, cC.2.2.2.2) (u9.1.1, u9.1.2.1, u9.1.2.2.1, u9.1.2.2.2.1, u9.1.2.2.2.2.1, u9.1.2.2.2.2.2.1, u9.1.2.2.2.2.2.2.1, u9.1.2.2.2.2.2.2.2) (u9.2.1, ((H.length : Nat) : Int), u9.2.2.1, u9.2.2.2.1, u9.2.2.2.2.1, (((mvL G S M H).length : Nat) : Int), u9.2.2.2.2.2.1, ((H.length : Nat) : Int)) cP) rfl ?_
  refine j_if_ne F (tgt := 10) dX7_make_5 (by decide) (by unfold rg; omega) (fun h9 => by exfalso; omega) (fun c5 => ?_)
  refine j_iconst F dX7_make_8 ?_
  exact ret _ u9 0 0 _ _ dX7_make_9 (by decide) (by decide) h7

end X7F