/-! ===== the model: lists of moves, the heaps behind a move ===== -/
section X7A
def mrep3 (ms : List Mv) (k h m : NF) : Prop := ∀ i, i < ms.length → k i = (((ms.getD i m0).1 : Nat) : Int) ∧ h i = (((ms.getD i m0).2.1 : Nat) : Int) ∧ m i = (((ms.getD i m0).2.2 : Nat) : Int)
theorem mrep3_0 (k h m : NF) : mrep3 [] k h m := fun i hi => absurd hi (Nat.not_lt_zero i)
theorem mrep3_push {ms : List Mv} {k h m : NF} (H : mrep3 ms k h m) (x : Mv) {v0 v1 v2 : Int} (h0 : v0 = (x.1 : Int)) (h1 : v1 = (x.2.1 : Int)) (h2 : v2 = (x.2.2 : Int)) : mrep3 (ms ++ [x]) (nup k ms.length v0) (nup h ms.length v1) (nup m ms.length v2) := by
  intro i hi
  rw [List.length_append] at hi
  by_cases q : i = ms.length
  · subst q
    rw [getD_app_r, nup_s, nup_s, nup_s]
    exact ⟨h0, h1, h2⟩
  · have q2 : i < ms.length := by simp only [List.length_cons, List.length_nil] at hi; omega
    rw [getD_app_l q2, nup_n _ _ (by omega), nup_n _ _ (by omega), nup_n _ _ (by omega)]
    exact H i q2

set_option maxHeartbeats 4000000 in
set_option maxRecDepth 100000 in
theorem c_X7_within {l : Launch} (hfl : l.flags = flags0) (D : va_G) (g : GT) (z : ZT) (x lo9 hi9 : Int) (hx : rg x) (hlo : rg lo9) (hhi : rg hi9) : CI l yX7_within wsX7_within 1 22 3 D g z [.int (iI x), .int (iI lo9), .int (iI hi9)] ([]) (fun (r9 : Int32) (u9 : Unit) => r9 = iI (b2 (lo9 ≤ x ∧ x ≤ hi9))) (fun (u9 : Unit) => []) 0 0 := by
  refine CI_of hfl (own := RX7) ⟨0, 0, 0, 0⟩ 1 22 3 (by decide +kernel) rfl rfl ⟨by decide, by decide, by decide +kernel⟩ ⟨by decide, by decide⟩ (le_ble rfl) (fun _ _ h => nar_b2 h) ?_
  intro p e s m below meth c A Q F ret
  change J p l e _ s m _ below meth c A D _ Q 0 0 ([]) [(0, .int (iI x)), (1, .int (iI lo9)), (2, .int (iI hi9))] [] 0
  refine j_iload_n F dX7_within_0 rfl 0 rfl ?_
  refine j_iload_n F dX7_within_1 rfl 1 rfl ?_
  refine j_icmp_lt F (tgt := 14) dX7_within_2 (by decide) ⟨(by assumption), (by assumption)⟩ (fun c2 => ?_) (fun c2 => ?_)
  · refine j_iconst F dX7_within_14 ?_
    exact ret _ () 0 0 _ _ dX7_within_15 (by decide) (by decide) (by first | (refine congrArg iI (Eq.symm (b2_t ?_)); omega) | (refine congrArg iI (Eq.symm (b2_f ?_)); omega))
  · refine j_iload_n F dX7_within_5 rfl 0 rfl ?_
    refine j_iload_n F dX7_within_6 rfl 2 rfl ?_
    refine j_icmp_gt F (tgt := 14) dX7_within_7 (by decide) ⟨(by assumption), (by assumption)⟩ (fun c7 => ?_) (fun c7 => ?_)
    · refine j_iconst F dX7_within_14 ?_
      exact ret _ () 0 0 _ _ dX7_within_15 (by decide) (by decide) (by first | (refine congrArg iI (Eq.symm (b2_t ?_)); omega) | (refine congrArg iI (Eq.symm (b2_f ?_)); omega))
    · refine j_iconst F dX7_within_10 ?_
      refine j_goto F (tgt := 15) dX7_within_11 (by decide) ?_
      exact ret _ () 0 0 _ _ dX7_within_15 (by decide) (by decide) (by first | (refine congrArg iI (Eq.symm (b2_t ?_)); omega) | (refine congrArg iI (Eq.symm (b2_f ?_)); omega))

set_option maxHeartbeats 4000000 in
set_option maxRecDepth 100000 in
theorem c_X7_thrown {l : Launch} (hfl : l.flags = flags0) (D : va_G) (g : GT) (z : ZT) (ad : Nat → Nat) (th : Int) (cC : CT) (cT : TT) (cL : LT) (cP : PT) : CI l yX7_thrown wsX7_thrown 1 20 0 D g z [.ref (ad 0)] (moC g ad th cC cT cL cP) (fun (r9 : Int32) (u9 : Unit) => r9 = iI th) (fun (u9 : Unit) => moC g ad th cC cT cL cP) 0 0 := by
  refine CI_of hfl (own := RX7) ⟨0, 0, 0, 0⟩ 1 20 0 (by decide +kernel) rfl rfl ⟨by decide, by decide, by decide +kernel⟩ ⟨by decide, by decide⟩ (le_ble rfl) (fun _ _ _ => rfl) ?_
  intro p e s m below meth c A Q F ret
  change J p l e _ s m _ below meth c A D _ Q 0 0 (moC g ad th cC cT cL cP) [(0, .ref (ad 0))] [] 0
  refine j_aload_n F dX7_thrown_0 rfl 0 rfl ?_
  refine j_getf F (ref := "CairnGameModel") (C := RX7) (T := TX7) (N := 27) (ci := 7) (index := 60) (v := .int (iI th)) (fun w h => (List.mem_cons_of_mem _ (List.mem_append_right _ h))) 0 rfl rfl 0 (by decide) (List.mem_cons_of_mem _ (List.mem_append_left _ (List.mem_of_getElem? (i := 0) rfl))) rfl rfl dX7_thrown_1 ?_
  exact ret _ () 0 0 _ _ dX7_thrown_4 (by decide) (by decide) rfl

set_option maxHeartbeats 4000000 in
set_option maxRecDepth 100000 in
theorem c_X7_tells {l : Launch} (hfl : l.flags = flags0) (D : va_G) (g : GT) (z : ZT) (ad : Nat → Nat) (th : Int) (cC : CT) (cT : TT) (cL : LT) (cP : PT) (x : Int) : CI l yX7_tells wsX7_tells 1 21 1 D g z [.ref (ad 0), .int (iI x)] (moC g ad th cC cT cL cP) (fun (r9 : Int32) (u9 : Unit) => r9 = iI x) (fun (u9 : Unit) => moC g ad 0 cC cT cL cP) 0 0 := by
  refine CI_of hfl (own := RX7) ⟨0, 0, 0, 0⟩ 1 21 1 (by decide +kernel) rfl rfl ⟨by decide, by decide, by decide +kernel⟩ ⟨by decide, by decide⟩ (le_ble rfl) (fun _ _ _ => rfl) ?_
  intro p e s m below meth c A Q F ret
  change J p l e _ s m _ below meth c A D _ Q 0 0 (moC g ad th cC cT cL cP) [(0, .ref (ad 0)), (1, .int (iI x))] [] 0
  refine j_aload_n F dX7_tells_0 rfl 0 rfl ?_
  refine j_iconst F dX7_tells_1 ?_
  refine j_putf F (ref := "CairnGameModel") (C := RX7) (T := TX7) (N := 27) (ci := 7) (index := 60) (ty := .int) (ws' := moC g ad 0 cC cT cL cP) (fun w h => (List.mem_cons_of_mem _ (List.mem_append_right _ h))) tyX7 tyX7_ok nmX7 0 rfl rfl 0 (by decide) (List.mem_cons_of_mem _ (List.mem_append_left _ (List.mem_of_getElem? (i := 0) rfl))) rfl rfl rfl rfl rfl (lt_ble rfl) rfl dX7_tells_2 ?_
  refine j_iload_n F dX7_tells_5 rfl 1 rfl ?_
  exact ret _ () 0 0 _ _ dX7_tells_6 (by decide) (by decide) rfl

set_option maxHeartbeats 4000000 in
set_option maxRecDepth 100000 in
theorem c_X7_adds {l : Launch} (hfl : l.flags = flags0) (D : va_G) (g : GT) (z : ZT) (ad : Nat → Nat) (th : Int) (cC : CT) (cT : TT) (cL : LT) (cP : PT) (n9 : Nat) (kd hp am : Int) (hn : n9 < 100) : CV l yX7_adds wsX7_adds 1 23 3 D g z [.ref (ad 0), .int (iI kd), .int (iI hp), .int (iI am)] (moC g ad th cC cT (cL.1, cL.2.1, cL.2.2.1, cL.2.2.2.1, cL.2.2.2.2.1, ((n9 : Nat) : Int), cL.2.2.2.2.2.2.1, cL.2.2.2.2.2.2.2) cP) (fun (u9 : Unit) => True) (fun (u9 : Unit) => moC g ad th cC cT (cL.1, cL.2.1, (nup cL.2.2.1 n9 kd), (nup cL.2.2.2.1 n9 hp), (nup cL.2.2.2.2.1 n9 am), ((n9 : Int) + 1), cL.2.2.2.2.2.2.1, cL.2.2.2.2.2.2.2) cP) 0 0 := by
  refine CV_of hfl (own := RX7) ⟨0, 0, 0, 0⟩ 1 23 3 (by decide +kernel) rfl rfl ⟨by decide, by decide, by decide +kernel⟩ ⟨by decide, by decide⟩ (le_ble rfl) ?_
  intro p e s m below meth c A Q F hin ret
  change J p l e _ s m _ below meth c A D _ Q 0 0 (moC g ad th cC cT (cL.1, cL.2.1, cL.2.2.1, cL.2.2.2.1, cL.2.2.2.2.1, ((n9 : Nat) : Int), cL.2.2.2.2.2.2.1, cL.2.2.2.2.2.2.2) cP) [(0, .ref (ad 0)), (1, .int (iI kd)), (2, .int (iI hp)), (3, .int (iI am))] [] 0
  refine j_aload_n F dX7_adds_0 rfl 0 rfl ?_
  refine j_getf F (ref := "CairnGameModel") (C := RX7) (T := TX7) (N := 27) (ci := 7) (index := 40) (v := .ref (ad 16)) (fun w h => (List.mem_cons_of_mem _ (List.mem_append_right _ h))) 0 rfl rfl 16 (by decide) (List.mem_cons_of_mem _ (List.mem_append_left _ (List.mem_of_getElem? (i := 0) rfl))) rfl rfl dX7_adds_1 ?_
  refine j_aload_n F dX7_adds_4 rfl 0 rfl ?_
  refine j_getf F (ref := "CairnGameModel") (C := RX7) (T := TX7) (N := 27) (ci := 7) (index := 76) (v := .int (iI ((n9 : Nat) : Int))) (fun w h => (List.mem_cons_of_mem _ (List.mem_append_right _ h))) 0 rfl rfl 19 (by decide) (List.mem_cons_of_mem _ (List.mem_append_left _ (List.mem_of_getElem? (i := 1) rfl))) rfl rfl dX7_adds_5 ?_
  refine j_iload_n F dX7_adds_8 rfl 1 rfl ?_
  refine j_iast F (ws' := moC g ad th cC cT (cL.1, cL.2.1, nup cL.2.2.1 n9 kd, cL.2.2.2.1, cL.2.2.2.2.1, ((n9 : Nat) : Int), cL.2.2.2.2.2.2.1, cL.2.2.2.2.2.2.2) cP) 11 (n := 100) (f := cL.2.2.1) rfl n9 (by omega) (by omega) (by decide) rfl dX7_adds_9 ?_
  refine j_aload_n F dX7_adds_10 rfl 0 rfl ?_
  refine j_getf F (ref := "CairnGameModel") (C := RX7) (T := TX7) (N := 27) (ci := 7) (index := 43) (v := .ref (ad 17)) (fun w h => (List.mem_cons_of_mem _ (List.mem_append_right _ h))) 0 rfl rfl 17 (by decide) (List.mem_cons_of_mem _ (List.mem_append_left _ (List.mem_of_getElem? (i := 2) rfl))) rfl rfl dX7_adds_11 ?_
  refine j_aload_n F dX7_adds_14 rfl 0 rfl ?_
  refine j_getf F (ref := "CairnGameModel") (C := RX7) (T := TX7) (N := 27) (ci := 7) (index := 76) (v := .int (iI ((n9 : Nat) : Int))) (fun w h => (List.mem_cons_of_mem _ (List.mem_append_right _ h))) 0 rfl rfl 19 (by decide) (List.mem_cons_of_mem _ (List.mem_append_left _ (List.mem_of_getElem? (i := 1) rfl))) rfl rfl dX7_adds_15 ?_
  refine j_iload_n F dX7_adds_18 rfl 2 rfl ?_
  refine j_iast F (ws' := moC g ad th cC cT (cL.1, cL.2.1, nup cL.2.2.1 n9 kd, nup cL.2.2.2.1 n9 hp, cL.2.2.2.2.1, ((n9 : Nat) : Int), cL.2.2.2.2.2.2.1, cL.2.2.2.2.2.2.2) cP) 12 (n := 100) (f := cL.2.2.2.1) rfl n9 (by omega) (by omega) (by decide) rfl dX7_adds_19 ?_
  refine j_aload_n F dX7_adds_20 rfl 0 rfl ?_
  refine j_getf F (ref := "CairnGameModel") (C := RX7) (T := TX7) (N := 27) (ci := 7) (index := 46) (v := .ref (ad 18)) (fun w h => (List.mem_cons_of_mem _ (List.mem_append_right _ h))) 0 rfl rfl 18 (by decide) (List.mem_cons_of_mem _ (List.mem_append_left _ (List.mem_of_getElem? (i := 3) rfl))) rfl rfl dX7_adds_21 ?_
  refine j_aload_n F dX7_adds_24 rfl 0 rfl ?_
  refine j_getf F (ref := "CairnGameModel") (C := RX7) (T := TX7) (N := 27) (ci := 7) (index := 76) (v := .int (iI ((n9 : Nat) : Int))) (fun w h => (List.mem_cons_of_mem _ (List.mem_append_right _ h))) 0 rfl rfl 19 (by decide) (List.mem_cons_of_mem _ (List.mem_append_left _ (List.mem_of_getElem? (i := 1) rfl))) rfl rfl dX7_adds_25 ?_
  refine j_iload_n F dX7_adds_28 rfl 3 rfl ?_
  refine j_iast F (ws' := moC g ad th cC cT (cL.1, cL.2.1, nup cL.2.2.1 n9 kd, nup cL.2.2.2.1 n9 hp, nup cL.2.2.2.2.1 n9 am, ((n9 : Nat) : Int), cL.2.2.2.2.2.2.1, cL.2.2.2.2.2.2.2) cP) 13 (n := 100) (f := cL.2.2.2.2.1) rfl n9 (by omega) (by omega) (by decide) rfl dX7_adds_29 ?_
  refine j_aload_n F dX7_adds_30 rfl 0 rfl ?_
  refine j_dup F dX7_adds_31 rfl ?_
  refine j_getf F (ref := "CairnGameModel") (C := RX7) (T := TX7) (N := 27) (ci := 7) (index := 76) (v := .int (iI ((n9 : Nat) : Int))) (fun w h => (List.mem_cons_of_mem _ (List.mem_append_right _ h))) 0 rfl rfl 19 (by decide) (List.mem_cons_of_mem _ (List.mem_append_left _ (List.mem_of_getElem? (i := 1) rfl))) rfl rfl dX7_adds_32 ?_
  refine j_iconst F dX7_adds_35 ?_
  refine j_iadd F dX7_adds_36 ?_
  refine j_putf F (ref := "CairnGameModel") (C := RX7) (T := TX7) (N := 27) (ci := 7) (index := 76) (ty := .int) (ws' := moC g ad th cC cT (cL.1, cL.2.1, nup cL.2.2.1 n9 kd, nup cL.2.2.2.1 n9 hp, nup cL.2.2.2.2.1 n9 am, (((n9 : Nat) : Int) + 1), cL.2.2.2.2.2.2.1, cL.2.2.2.2.2.2.2) cP) (fun w h => (List.mem_cons_of_mem _ (List.mem_append_right _ h))) tyX7 tyX7_ok nmX7 0 rfl rfl 19 (by decide) (List.mem_cons_of_mem _ (List.mem_append_left _ (List.mem_of_getElem? (i := 1) rfl))) rfl rfl rfl rfl rfl (lt_ble rfl) rfl dX7_adds_37 ?_
  exact ret () 0 0 _ _ dX7_adds_40 (by decide) (by decide) trivial

def sc2 (G S : Nat) (L : List Nat) : List Mv := tkL G L L.length ++ (if S = 1 then spL L L.length else [])
theorem sc2_mv (G S M : Nat) (L : List Nat) : sc2 G S L ++ (if M = 1 then mgL L.length L.length else []) = mvL G S M L := by
  unfold sc2 mvL
  rw [List.append_assoc]
theorem sc2_e {G S i : Nat} {L : List Nat} (h1 : S = 1 ∨ i = 0) (h2 : ¬ S = 1 ∨ i = L.length) : tkL G L L.length ++ spL L i = sc2 G S L := by
  unfold sc2
  by_cases q : S = 1
  · rw [if_pos q]
    rcases h2 with h | h
    · exact absurd q h
    · rw [h]
  · rw [if_neg q]
    rcases h1 with h | h
    · exact absurd h q
    · rw [h]; rfl
theorem mv_e {G S M i : Nat} {L : List Nat} (h1 : M = 1 ∨ i = 0) (h2 : ¬ M = 1 ∨ i = L.length) : sc2 G S L ++ mgL L.length i = mvL G S M L := by
  rw [← sc2_mv]
  by_cases q : M = 1
  · rw [if_pos q]
    rcases h2 with h | h
    · exact absurd q h
    · rw [h]
  · rw [if_neg q]
    rcases h1 with h | h
    · exact absurd h q
    · rw [h]; rfl
theorem sc2_len {G S : Nat} {L : List Nat} (h : okH L) : (sc2 G S L).length ≤ 84 ∧ (S = 1 → (tkL G L L.length).length + (spL L L.length).length ≤ 84) ∧ (tkL G L L.length).length ≤ 84 := by
  have h1 := mvL_len (g := G) (sp := S) (mg := 0) h
  have h2 := mvL_len (g := G) (sp := 1) (mg := 0) h
  rw [← sc2_mv, if_neg (by decide), List.append_nil] at h1 h2
  have e : (sc2 G 1 L).length = (tkL G L L.length).length + (spL L L.length).length := by
    unfold sc2
    rw [if_pos rfl, List.length_append]
  exact ⟨h1, fun _ => by omega, by omega⟩
theorem mv_len2 {G S M : Nat} {L : List Nat} (h : okH L) (hM : M = 1) : (sc2 G S L).length + (mgL L.length L.length).length ≤ 84 := by
  have h1 := mvL_len (g := G) (sp := S) (mg := 1) h
  rw [← sc2_mv, if_pos rfl, List.length_append] at h1
  exact h1
/-- the state's row: the heaps, the rules, the ending, what was made -/
def stM (f : NF) (L : List Nat) (G S M Nn : Nat) (c : C3) : Prop := f 0 = (G : Int) ∧ f 1 = (S : Int) ∧ f 2 = (M : Int) ∧ f 3 = (Nn : Int) ∧ f 4 = ((L.length : Nat) : Int) ∧ (∀ i, i < L.length → f (5 + i) = ((L.getD i 0 : Nat) : Int)) ∧ f 17 = (c.1 : Int) ∧ f 18 = (c.2.1 : Int) ∧ f 19 = (c.2.2 : Int)

set_option maxHeartbeats 4000000 in
set_option maxRecDepth 100000 in
theorem c_X7_lists {l : Launch} (hfl : l.flags = flags0) (D : va_G) (g : GT) (z : ZT) (ad : Nat → Nat) (th : Int) (cC : CT) (cT : TT) (cL : LT) (cP : PT) (L1 : List Nat) (L : List Nat) (G S M Nn : Nat) (c3 : C3) (hL : okH L) (hG : 1 ≤ G ∧ G ≤ 5) (hS : S ≤ 1) (hM : M ≤ 1) (hN : Nn ≤ 1) (hst : stM cC.1 L1 G S M Nn c3) (hr : rep cL.1 L) : CV l yX7_lists wsX7_lists 2 45 0 D g z [.ref (ad 0)] (moC g ad th cC cT (cL.1, ((L.length : Nat) : Int), cL.2.2.1, cL.2.2.2.1, cL.2.2.2.2.1, cL.2.2.2.2.2.1, cL.2.2.2.2.2.2.1, cL.2.2.2.2.2.2.2) cP) (fun (u9 : NF × NF × NF) => mrep3 (mvL G S M L) u9.1 u9.2.1 u9.2.2) (fun (u9 : NF × NF × NF) => moC g ad th cC cT (cL.1, ((L.length : Nat) : Int), u9.1, u9.2.1, u9.2.2, (((mvL G S M L).length : Nat) : Int), cL.2.2.2.2.2.2.1, cL.2.2.2.2.2.2.2) cP) 0 0 := by
  refine CV_of hfl (own := RX7) ⟨1, 0, 0, 23⟩ 2 45 0 (by decide +kernel) rfl rfl ⟨by decide, by decide, by decide +kernel⟩ ⟨by decide, by decide⟩ (le_ble rfl) ?_
  intro p e s m below meth c A Q F hin ret
  change J p l e _ s m _ below meth c A D _ Q 0 0 (moC g ad th cC cT (cL.1, ((L.length : Nat) : Int), cL.2.2.1, cL.2.2.2.1, cL.2.2.2.2.1, cL.2.2.2.2.2.1, cL.2.2.2.2.2.2.1, cL.2.2.2.2.2.2.2) cP) [(0, .ref (ad 0))] [] 0
  have hlen := okH_len hL
  have hl84 := sc2_len (G := G) (S := S) hL
  refine j_aload_n F dX7_lists_0 rfl 0 rfl ?_
  refine j_iconst F dX7_lists_1 ?_
  refine j_putf F (ref := "CairnGameModel") (C := RX7) (T := TX7) (N := 27) (ci := 7) (index := 76) (ty := .int) (ws' := moC g ad th cC cT (cL.1, ((L.length : Nat) : Int), cL.2.2.1, cL.2.2.2.1, cL.2.2.2.2.1, 0, cL.2.2.2.2.2.2.1, cL.2.2.2.2.2.2.2) cP) (fun w h => (List.mem_cons_of_mem _ (List.mem_append_right _ h))) tyX7 tyX7_ok nmX7 0 rfl rfl 19 (by decide) (List.mem_cons_of_mem _ (List.mem_append_left _ (List.mem_of_getElem? (i := 0) rfl))) rfl rfl rfl rfl rfl (lt_ble rfl) rfl dX7_lists_2 ?_
  refine J.wsEq (ws2 := moC g ad th cC cT (cL.1, ((L.length : Nat) : Int), cL.2.2.1, cL.2.2.2.1, cL.2.2.2.2.1, (((([] : List Mv)).length : Nat) : Int), cL.2.2.2.2.2.2.1, cL.2.2.2.2.2.2.2) cP) (rfl) ?_
  refine j_iconst F dX7_lists_5 ?_
  refine j_istore_n F (lv' := [(1, .int (iI 0)), (0, .ref (ad 0))]) dX7_lists_6 rfl (by decide) rfl ?_
  refine J.loc [0, 1] rfl ?_
  refine J.wsEq (ws2 := moC g ad th cC cT (cL.1, ((L.length : Nat) : Int), cL.2.2.1, cL.2.2.2.1, cL.2.2.2.2.1, (((tkL G L 0).length : Nat) : Int), cL.2.2.2.2.2.2.1, cL.2.2.2.2.2.2.2) cP) (by rw [tkL]) ?_
  refine J_loop (σ := Nat × NF × NF × NF) (fun x9 : Nat × NF × NF × NF => match x9 with | (i, k1, h1, m1) => (i ≤ L.length) ∧ mrep3 (tkL G L i) k1 h1 m1) (fun x9 : Nat × NF × NF × NF => match x9 with | (i, k1, h1, m1) => L.length - i) (fun x9 : Nat × NF × NF × NF => match x9 with | (i, k1, h1, m1) => moC g ad th cC cT (cL.1, ((L.length : Nat) : Int), k1, h1, m1, (((tkL G L i).length : Nat) : Int), cL.2.2.2.2.2.2.1, cL.2.2.2.2.2.2.2) cP) (fun x9 : Nat × NF × NF × NF => match x9 with | (i, k1, h1, m1) => [(1, .int (iI (i : Int))), (0, .ref (ad 0))]) (0, cL.2.2.1, cL.2.2.2.1, cL.2.2.2.2.1) (by show (0 ≤ L.length) ∧ mrep3 (tkL G L 0) cL.2.2.1 cL.2.2.2.1 cL.2.2.2.2.1; exact ⟨Nat.zero_le _, by rw [tkL]; exact mrep3_0 _ _ _⟩) ?_
  rintro ⟨i, k1, h1, m1⟩ hI ih7
  have hI : (i ≤ L.length) ∧ mrep3 (tkL G L i) k1 h1 m1 := hI
  obtain ⟨hi, hm⟩ := hI
  refine j_iload_n F dX7_lists_7 rfl 0 rfl ?_
  refine j_aload_n F dX7_lists_8 rfl 1 rfl ?_
  refine j_getf F (ref := "CairnGameModel") (C := RX7) (T := TX7) (N := 27) (ci := 7) (index := 79) (v := .int (iI ((L.length : Nat) : Int))) (fun w h => (List.mem_cons_of_mem _ (List.mem_append_right _ h))) 0 rfl rfl 15 (by decide) (List.mem_cons_of_mem _ (List.mem_append_left _ (List.mem_of_getElem? (i := 1) rfl))) rfl rfl dX7_lists_9 ?_
  refine j_icmp_ge F (tgt := 56) dX7_lists_12 (by decide) ⟨(by unfold rg; omega), (by unfold rg; omega)⟩ (fun c12 => ?_) (fun c12 => ?_)
  · have ei : i = L.length := by omega
    have hmA : mrep3 (tkL G L L.length) k1 h1 m1 := by rw [← ei]; exact hm
    refine J.wsEq (ws2 := moC g ad th cC cT (cL.1, ((L.length : Nat) : Int), k1, h1, m1, (((tkL G L L.length).length : Nat) : Int), cL.2.2.2.2.2.2.1, cL.2.2.2.2.2.2.2) cP) (by rw [ei]) ?_
    refine j_iconst F dX7_lists_56 ?_
    refine j_istore_n F (lv' := [(1, .int (iI 0)), (0, .ref (ad 0))]) dX7_lists_57 rfl (by decide) rfl ?_
    refine J.loc [0, 1] rfl ?_
    refine J.wsEq (ws2 := moC g ad th cC cT (cL.1, ((L.length : Nat) : Int), k1, h1, m1, (((tkL G L L.length ++ spL L 0).length : Nat) : Int), cL.2.2.2.2.2.2.1, cL.2.2.2.2.2.2.2) cP) (by rw [spL, List.append_nil]) ?_
    refine J_loop (σ := Nat × NF × NF × NF) (fun x9 : Nat × NF × NF × NF => match x9 with | (i3, k3, h3, m3) => (i3 ≤ L.length ∧ (S = 1 ∨ i3 = 0)) ∧ mrep3 (tkL G L L.length ++ spL L i3) k3 h3 m3) (fun x9 : Nat × NF × NF × NF => match x9 with | (i3, k3, h3, m3) => L.length - i3) (fun x9 : Nat × NF × NF × NF => match x9 with | (i3, k3, h3, m3) => moC g ad th cC cT (cL.1, ((L.length : Nat) : Int), k3, h3, m3, (((tkL G L L.length ++ spL L i3).length : Nat) : Int), cL.2.2.2.2.2.2.1, cL.2.2.2.2.2.2.2) cP) (fun x9 : Nat × NF × NF × NF => match x9 with | (i3, k3, h3, m3) => [(1, .int (iI (i3 : Int))), (0, .ref (ad 0))]) (0, k1, h1, m1) (by show (0 ≤ L.length ∧ (S = 1 ∨ 0 = 0)) ∧ mrep3 (tkL G L L.length ++ spL L 0) k1 h1 m1; exact ⟨⟨Nat.zero_le _, Or.inr rfl⟩, by rw [spL, List.append_nil]; exact hmA⟩) ?_
    rintro ⟨i3, k3, h3, m3⟩ hI ih58
    have hI : (i3 ≤ L.length ∧ (S = 1 ∨ i3 = 0)) ∧ mrep3 (tkL G L L.length ++ spL L i3) k3 h3 m3 := hI
    obtain ⟨⟨hi, hS1⟩, hm⟩ := hI
    refine j_iload_n F dX7_lists_58 rfl 0 rfl ?_
    refine j_aload_n F dX7_lists_59 rfl 1 rfl ?_
    refine j_getf F (ref := "CairnGameModel") (C := RX7) (T := TX7) (N := 27) (ci := 7) (index := 79) (v := .int (iI ((L.length : Nat) : Int))) (fun w h => (List.mem_cons_of_mem _ (List.mem_append_right _ h))) 0 rfl rfl 15 (by decide) (List.mem_cons_of_mem _ (List.mem_append_left _ (List.mem_of_getElem? (i := 1) rfl))) rfl rfl dX7_lists_60 ?_
    refine j_icmp_ge F (tgt := 109) dX7_lists_63 (by decide) ⟨(by unfold rg; omega), (by unfold rg; omega)⟩ (fun c63 => ?_) (fun c63 => ?_)
    · have q9 := sc2_e (G := G) (S := S) (i := i3) (L := L) (hS1) (by omega)
      have hmB : mrep3 (sc2 G S L) k3 h3 m3 := by rw [← q9]; exact hm
      refine J.wsEq (ws2 := moC g ad th cC cT (cL.1, ((L.length : Nat) : Int), k3, h3, m3, (((sc2 G S L).length : Nat) : Int), cL.2.2.2.2.2.2.1, cL.2.2.2.2.2.2.2) cP) (by dsimp only; rw [q9]) ?_
      refine j_iconst F dX7_lists_109 ?_
      refine j_istore_n F (lv' := [(1, .int (iI 0)), (0, .ref (ad 0))]) dX7_lists_110 rfl (by decide) rfl ?_
      refine J.loc [0, 1] rfl ?_
      refine J.wsEq (ws2 := moC g ad th cC cT (cL.1, ((L.length : Nat) : Int), k3, h3, m3, (((sc2 G S L ++ mgL L.length 0).length : Nat) : Int), cL.2.2.2.2.2.2.1, cL.2.2.2.2.2.2.2) cP) (by rw [mgL, List.append_nil]) ?_
      refine J_loop (σ := Nat × NF × NF × NF) (fun x9 : Nat × NF × NF × NF => match x9 with | (i5, k5, h5, m5) => (i5 ≤ L.length ∧ (M = 1 ∨ i5 = 0)) ∧ mrep3 (sc2 G S L ++ mgL L.length i5) k5 h5 m5) (fun x9 : Nat × NF × NF × NF => match x9 with | (i5, k5, h5, m5) => L.length - i5) (fun x9 : Nat × NF × NF × NF => match x9 with | (i5, k5, h5, m5) => moC g ad th cC cT (cL.1, ((L.length : Nat) : Int), k5, h5, m5, (((sc2 G S L ++ mgL L.length i5).length : Nat) : Int), cL.2.2.2.2.2.2.1, cL.2.2.2.2.2.2.2) cP) (fun x9 : Nat × NF × NF × NF => match x9 with | (i5, k5, h5, m5) => [(1, .int (iI (i5 : Int))), (0, .ref (ad 0))]) (0, k3, h3, m3) (by show (0 ≤ L.length ∧ (M = 1 ∨ 0 = 0)) ∧ mrep3 (sc2 G S L ++ mgL L.length 0) k3 h3 m3; exact ⟨⟨Nat.zero_le _, Or.inr rfl⟩, by rw [mgL, List.append_nil]; exact hmB⟩) ?_
      rintro ⟨i5, k5, h5, m5⟩ hI ih111
      have hI : (i5 ≤ L.length ∧ (M = 1 ∨ i5 = 0)) ∧ mrep3 (sc2 G S L ++ mgL L.length i5) k5 h5 m5 := hI
      obtain ⟨⟨hi, hM1⟩, hm⟩ := hI
      refine j_iload_n F dX7_lists_111 rfl 0 rfl ?_
      refine j_aload_n F dX7_lists_112 rfl 1 rfl ?_
      refine j_getf F (ref := "CairnGameModel") (C := RX7) (T := TX7) (N := 27) (ci := 7) (index := 79) (v := .int (iI ((L.length : Nat) : Int))) (fun w h => (List.mem_cons_of_mem _ (List.mem_append_right _ h))) 0 rfl rfl 15 (by decide) (List.mem_cons_of_mem _ (List.mem_append_left _ (List.mem_of_getElem? (i := 1) rfl))) rfl rfl dX7_lists_113 ?_
      refine j_icmp_ge F (tgt := 160) dX7_lists_116 (by decide) ⟨(by unfold rg; omega), (by unfold rg; omega)⟩ (fun c116 => ?_) (fun c116 => ?_)
      · have q9 := mv_e (G := G) (S := S) (M := M) (i := i5) (L := L) (hM1) (by omega)
        refine J.wsEq (ws2 := moC g ad th cC cT (cL.1, ((L.length : Nat) : Int), k5, h5, m5, (((mvL G S M L).length : Nat) : Int), cL.2.2.2.2.2.2.1, cL.2.2.2.2.2.2.2) cP) (by dsimp only; rw [q9]) ?_
        exact ret (k5, h5, m5) 0 0 _ _ dX7_lists_160 (by decide) (by decide) (by rw [← q9]; exact hm)
      · refine j_aload_n F dX7_lists_119 rfl 1 rfl ?_
        refine j_getf F (ref := "CairnGameModel") (C := RX7) (T := TX7) (N := 27) (ci := 7) (index := 7) (v := .ref (ad 1)) (fun w h => (List.mem_cons_of_mem _ (List.mem_append_right _ h))) 0 rfl rfl 1 (by decide) (List.mem_cons_of_mem _ (List.mem_append_left _ (List.mem_of_getElem? (i := 2) rfl))) rfl rfl dX7_lists_120 ?_
        refine j_iconst F dX7_lists_123 ?_
        refine j_iald F 1 (n := 20) (f := cC.1) rfl 2 (by decide) (by decide) (by decide) dX7_lists_124 ?_
        refine J.top (congrArg iI (show cC.1 2 = (M : Int) from hst.2.2.1)) ?_
        refine j_iconst F dX7_lists_125 ?_
        refine j_icmp_ne F (tgt := 160) dX7_lists_126 (by decide) ⟨(by unfold rg; omega), (by unfold rg; omega)⟩ (fun c126 => ?_) (fun c126 => ?_)
        · have q9 := mv_e (G := G) (S := S) (M := M) (i := i5) (L := L) (hM1) (Or.inl (by omega))
          refine J.wsEq (ws2 := moC g ad th cC cT (cL.1, ((L.length : Nat) : Int), k5, h5, m5, (((mvL G S M L).length : Nat) : Int), cL.2.2.2.2.2.2.1, cL.2.2.2.2.2.2.2) cP) (by dsimp only; rw [q9]) ?_
          exact ret (k5, h5, m5) 0 0 _ _ dX7_lists_160 (by decide) (by decide) (by rw [← q9]; exact hm)
        · refine j_iload_n F dX7_lists_129 rfl 0 rfl ?_
          refine j_iconst F dX7_lists_130 ?_
          refine j_iadd F dX7_lists_131 ?_
          refine J.top (congrArg iI (show ((i5 : Int) + 1) = (((i5 + 1) : Nat) : Int) from by omega)) ?_
          refine j_istore_n F (lv' := [(2, .int (iI (((i5 + 1) : Nat) : Int))), (1, .int (iI (i5 : Int))), (0, .ref (ad 0))]) dX7_lists_132 rfl (by decide) rfl ?_
          refine J.loc [0, 1, 2] rfl ?_
          refine J.wsEq (ws2 := moC g ad th cC cT (cL.1, ((L.length : Nat) : Int), k5, h5, m5, (((sc2 G S L ++ mgL L.length i5 ++ mgR i5 0).length : Nat) : Int), cL.2.2.2.2.2.2.1, cL.2.2.2.2.2.2.2) cP) (by rw [mgR, List.append_nil]) ?_
          refine J_loop (σ := Nat × NF × NF × NF) (fun x9 : Nat × NF × NF × NF => match x9 with | (t, k2, h2, m2) => t ≤ L.length - 1 - i5 ∧ mrep3 (sc2 G S L ++ mgL L.length i5 ++ mgR i5 t) k2 h2 m2) (fun x9 : Nat × NF × NF × NF => match x9 with | (t, k2, h2, m2) => L.length - 1 - i5 - t) (fun x9 : Nat × NF × NF × NF => match x9 with | (t, k2, h2, m2) => moC g ad th cC cT (cL.1, ((L.length : Nat) : Int), k2, h2, m2, (((sc2 G S L ++ mgL L.length i5 ++ mgR i5 t).length : Nat) : Int), cL.2.2.2.2.2.2.1, cL.2.2.2.2.2.2.2) cP) (fun x9 : Nat × NF × NF × NF => match x9 with | (t, k2, h2, m2) => [(2, .int (iI (((i5 + 1 + t) : Nat) : Int))), (1, .int (iI (i5 : Int))), (0, .ref (ad 0))]) (0, k5, h5, m5) (by show 0 ≤ L.length - 1 - i5 ∧ mrep3 (sc2 G S L ++ mgL L.length i5 ++ mgR i5 0) k5 h5 m5; exact ⟨Nat.zero_le _, by rw [mgR, List.append_nil]; exact hm⟩) ?_
          rintro ⟨t, k2, h2, m2⟩ hI ih133
          have hI : t ≤ L.length - 1 - i5 ∧ mrep3 (sc2 G S L ++ mgL L.length i5 ++ mgR i5 t) k2 h2 m2 := hI
          obtain ⟨ht, hm2⟩ := hI
          refine j_iload_n F dX7_lists_133 rfl 0 rfl ?_
          refine j_aload_n F dX7_lists_134 rfl 2 rfl ?_
          refine j_getf F (ref := "CairnGameModel") (C := RX7) (T := TX7) (N := 27) (ci := 7) (index := 79) (v := .int (iI ((L.length : Nat) : Int))) (fun w h => (List.mem_cons_of_mem _ (List.mem_append_right _ h))) 0 rfl rfl 15 (by decide) (List.mem_cons_of_mem _ (List.mem_append_left _ (List.mem_of_getElem? (i := 1) rfl))) rfl rfl dX7_lists_135 ?_
          refine j_icmp_ge F (tgt := 154) dX7_lists_138 (by decide) ⟨(by unfold rg; omega), (by unfold rg; omega)⟩ (fun c138 => ?_) (fun c138 => ?_)
          · have et : t = L.length - 1 - i5 := by omega
            have hmE : mrep3 (sc2 G S L ++ mgL L.length (i5 + 1)) k2 h2 m2 := by rw [mgL, ← List.append_assoc, ← et]; exact hm2
            refine J.wsEq (ws2 := moC g ad th cC cT (cL.1, ((L.length : Nat) : Int), k2, h2, m2, (((sc2 G S L ++ mgL L.length (i5 + 1)).length : Nat) : Int), cL.2.2.2.2.2.2.1, cL.2.2.2.2.2.2.2) cP) (by rw [mgL, ← List.append_assoc, ← et]) ?_
            refine j_iinc F (lv' := [(1, .int (iI ((i5 : Int) + 1))), (2, .int (iI (((i5 + 1 + t) : Nat) : Int))), (0, .ref (ad 0))]) dX7_lists_154 1 rfl (by decide) rfl ?_
            refine j_goto F (tgt := 111) dX7_lists_157 (by decide) ?_
            refine J.loc [0, 2] rfl ?_
            exact ih111 ((i5 + 1), k2, h2, m2) (by show ((i5 + 1) ≤ L.length ∧ (M = 1 ∨ (i5 + 1) = 0)) ∧ mrep3 (sc2 G S L ++ mgL L.length (i5 + 1)) k2 h2 m2; exact ⟨by omega, hmE⟩) (by show L.length - (i5 + 1) < L.length - i5; omega)
          · refine j_aload_n F dX7_lists_141 rfl 2 rfl ?_
            refine j_iconst F dX7_lists_142 ?_
            refine j_iload_n F dX7_lists_143 rfl 1 rfl ?_
            refine j_iload_n F dX7_lists_144 rfl 0 rfl ?_
            refine j_callV_V F (As := [.int (iI 2), .int (iI (i5 : Int)), .int (iI (((i5 + 1 + t) : Nat) : Int))]) (wr := []) (st := []) (c_X7_adds hfl D g z ad th cC cT (cL.1, ((L.length : Nat) : Int), k2, h2, m2, (((sc2 G S L ++ mgL L.length i5 ++ mgR i5 t).length : Nat) : Int), cL.2.2.2.2.2.2.1, cL.2.2.2.2.2.2.2) cP (sc2 G S L ++ mgL L.length i5 ++ mgR i5 t).length 2 (i5 : Int) ((i5 + 1 + t : Nat) : Int) (by have h8 := mgL_step (N := L.length) (n := L.length) (i := i5) (by omega); have h7 := mv_len2 (G := G) (S := S) hL (show M = 1 by omega); simp only [List.length_append, mgR_len] at *; omega)) (idx := 82) (C := RX7) gX7_lists_X7_adds rfl rfl [0, 1, 2, 3, 4, 5, 6, 7, 8, 9, 10, 11, 12, 13, 14] [] rfl rfl (by decide) (by decide) (by decide) (ci := 7) (q0 := 0) rfl rfl (by decide) (by decide) (le_ble rfl) ⟨by decide, by decide⟩ dX7_lists_145 ?_
            rintro u9 h9
            refine J.wsEq (ws2 := moC g ad th cC cT (cL.1, ((L.length : Nat) : Int), (nup k2 (sc2 G S L ++ mgL L.length i5 ++ mgR i5 t).length 2), (nup h2 (sc2 G S L ++ mgL L.length i5 ++ mgR i5 t).length (i5 : Int)), (nup m2 (sc2 G S L ++ mgL L.length i5 ++ mgR i5 t).length ((i5 + 1 + t : Nat) : Int)), (((sc2 G S L ++ mgL L.length i5 ++ mgR i5 t).length : Int) + 1), cL.2.2.2.2.2.2.1, cL.2.2.2.2.2.2.2) cP) rfl ?_
            refine J.wsEq (ws2 := moC g ad th cC cT (cL.1, ((L.length : Nat) : Int), (nup k2 (sc2 G S L ++ mgL L.length i5 ++ mgR i5 t).length 2), (nup h2 (sc2 G S L ++ mgL L.length i5 ++ mgR i5 t).length (i5 : Int)), (nup m2 (sc2 G S L ++ mgL L.length i5 ++ mgR i5 t).length ((i5 + 1 + t : Nat) : Int)), (((sc2 G S L ++ mgL L.length i5 ++ mgR i5 (t + 1)).length : Nat) : Int), cL.2.2.2.2.2.2.1, cL.2.2.2.2.2.2.2) cP) (by rw [mgR, ← List.append_assoc, List.length_append (as := sc2 G S L ++ mgL L.length i5 ++ mgR i5 t)]; rfl) ?_
            refine j_iinc F (lv' := [(2, .int (iI ((((i5 + 1 + t) : Nat) : Int) + 1))), (1, .int (iI (i5 : Int))), (0, .ref (ad 0))]) dX7_lists_148 0 rfl (by decide) rfl ?_
            refine j_goto F (tgt := 133) dX7_lists_151 (by decide) ?_
            refine J.loc [0, 1, 2] rfl ?_
            exact ih133 ((t + 1), (nup k2 (sc2 G S L ++ mgL L.length i5 ++ mgR i5 t).length 2), (nup h2 (sc2 G S L ++ mgL L.length i5 ++ mgR i5 t).length (i5 : Int)), (nup m2 (sc2 G S L ++ mgL L.length i5 ++ mgR i5 t).length ((i5 + 1 + t : Nat) : Int))) (by show (t + 1) ≤ L.length - 1 - i5 ∧ mrep3 (sc2 G S L ++ mgL L.length i5 ++ mgR i5 (t + 1)) (nup k2 (sc2 G S L ++ mgL L.length i5 ++ mgR i5 t).length 2) (nup h2 (sc2 G S L ++ mgL L.length i5 ++ mgR i5 t).length (i5 : Int)) (nup m2 (sc2 G S L ++ mgL L.length i5 ++ mgR i5 t).length ((i5 + 1 + t : Nat) : Int)); exact ⟨by omega, by rw [mgR, ← List.append_assoc]; exact mrep3_push hm2 (2, i5, i5 + 1 + t) rfl rfl rfl⟩) (by show L.length - 1 - i5 - (t + 1) < L.length - 1 - i5 - t; omega)
    · refine j_aload_n F dX7_lists_66 rfl 1 rfl ?_
      refine j_getf F (ref := "CairnGameModel") (C := RX7) (T := TX7) (N := 27) (ci := 7) (index := 7) (v := .ref (ad 1)) (fun w h => (List.mem_cons_of_mem _ (List.mem_append_right _ h))) 0 rfl rfl 1 (by decide) (List.mem_cons_of_mem _ (List.mem_append_left _ (List.mem_of_getElem? (i := 2) rfl))) rfl rfl dX7_lists_67 ?_
      refine j_iconst F dX7_lists_70 ?_
      refine j_iald F 1 (n := 20) (f := cC.1) rfl 1 (by decide) (by decide) (by decide) dX7_lists_71 ?_
      refine J.top (congrArg iI (show cC.1 1 = (S : Int) from hst.2.1)) ?_
      refine j_iconst F dX7_lists_72 ?_
      refine j_icmp_ne F (tgt := 109) dX7_lists_73 (by decide) ⟨(by unfold rg; omega), (by unfold rg; omega)⟩ (fun c73 => ?_) (fun c73 => ?_)
      · have q9 := sc2_e (G := G) (S := S) (i := i3) (L := L) (hS1) (Or.inl (by omega))
        have hmB : mrep3 (sc2 G S L) k3 h3 m3 := by rw [← q9]; exact hm
        refine J.wsEq (ws2 := moC g ad th cC cT (cL.1, ((L.length : Nat) : Int), k3, h3, m3, (((sc2 G S L).length : Nat) : Int), cL.2.2.2.2.2.2.1, cL.2.2.2.2.2.2.2) cP) (by dsimp only; rw [q9]) ?_
        refine j_iconst F dX7_lists_109 ?_
        refine j_istore_n F (lv' := [(1, .int (iI 0)), (0, .ref (ad 0))]) dX7_lists_110 rfl (by decide) rfl ?_
        refine J.loc [0, 1] rfl ?_
        refine J.wsEq (ws2 := moC g ad th cC cT (cL.1, ((L.length : Nat) : Int), k3, h3, m3, (((sc2 G S L ++ mgL L.length 0).length : Nat) : Int), cL.2.2.2.2.2.2.1, cL.2.2.2.2.2.2.2) cP) (by rw [mgL, List.append_nil]) ?_
        refine J_loop (σ := Nat × NF × NF × NF) (fun x9 : Nat × NF × NF × NF => match x9 with | (i5, k5, h5, m5) => (i5 ≤ L.length ∧ (M = 1 ∨ i5 = 0)) ∧ mrep3 (sc2 G S L ++ mgL L.length i5) k5 h5 m5) (fun x9 : Nat × NF × NF × NF => match x9 with | (i5, k5, h5, m5) => L.length - i5) (fun x9 : Nat × NF × NF × NF => match x9 with | (i5, k5, h5, m5) => moC g ad th cC cT (cL.1, ((L.length : Nat) : Int), k5, h5, m5, (((sc2 G S L ++ mgL L.length i5).length : Nat) : Int), cL.2.2.2.2.2.2.1, cL.2.2.2.2.2.2.2) cP) (fun x9 : Nat × NF × NF × NF => match x9 with | (i5, k5, h5, m5) => [(1, .int (iI (i5 : Int))), (0, .ref (ad 0))]) (0, k3, h3, m3) (by show (0 ≤ L.length ∧ (M = 1 ∨ 0 = 0)) ∧ mrep3 (sc2 G S L ++ mgL L.length 0) k3 h3 m3; exact ⟨⟨Nat.zero_le _, Or.inr rfl⟩, by rw [mgL, List.append_nil]; exact hmB⟩) ?_
        rintro ⟨i5, k5, h5, m5⟩ hI ih111
        have hI : (i5 ≤ L.length ∧ (M = 1 ∨ i5 = 0)) ∧ mrep3 (sc2 G S L ++ mgL L.length i5) k5 h5 m5 := hI
        obtain ⟨⟨hi, hM1⟩, hm⟩ := hI
        refine j_iload_n F dX7_lists_111 rfl 0 rfl ?_
        refine j_aload_n F dX7_lists_112 rfl 1 rfl ?_
        refine j_getf F (ref := "CairnGameModel") (C := RX7) (T := TX7) (N := 27) (ci := 7) (index := 79) (v := .int (iI ((L.length : Nat) : Int))) (fun w h => (List.mem_cons_of_mem _ (List.mem_append_right _ h))) 0 rfl rfl 15 (by decide) (List.mem_cons_of_mem _ (List.mem_append_left _ (List.mem_of_getElem? (i := 1) rfl))) rfl rfl dX7_lists_113 ?_
        refine j_icmp_ge F (tgt := 160) dX7_lists_116 (by decide) ⟨(by unfold rg; omega), (by unfold rg; omega)⟩ (fun c116 => ?_) (fun c116 => ?_)
        · have q9 := mv_e (G := G) (S := S) (M := M) (i := i5) (L := L) (hM1) (by omega)
          refine J.wsEq (ws2 := moC g ad th cC cT (cL.1, ((L.length : Nat) : Int), k5, h5, m5, (((mvL G S M L).length : Nat) : Int), cL.2.2.2.2.2.2.1, cL.2.2.2.2.2.2.2) cP) (by dsimp only; rw [q9]) ?_
          exact ret (k5, h5, m5) 0 0 _ _ dX7_lists_160 (by decide) (by decide) (by rw [← q9]; exact hm)
        · refine j_aload_n F dX7_lists_119 rfl 1 rfl ?_
          refine j_getf F (ref := "CairnGameModel") (C := RX7) (T := TX7) (N := 27) (ci := 7) (index := 7) (v := .ref (ad 1)) (fun w h => (List.mem_cons_of_mem _ (List.mem_append_right _ h))) 0 rfl rfl 1 (by decide) (List.mem_cons_of_mem _ (List.mem_append_left _ (List.mem_of_getElem? (i := 2) rfl))) rfl rfl dX7_lists_120 ?_
          refine j_iconst F dX7_lists_123 ?_
          refine j_iald F 1 (n := 20) (f := cC.1) rfl 2 (by decide) (by decide) (by decide) dX7_lists_124 ?_
          refine J.top (congrArg iI (show cC.1 2 = (M : Int) from hst.2.2.1)) ?_
          refine j_iconst F dX7_lists_125 ?_
          refine j_icmp_ne F (tgt := 160) dX7_lists_126 (by decide) ⟨(by unfold rg; omega), (by unfold rg; omega)⟩ (fun c126 => ?_) (fun c126 => ?_)
          · have q9 := mv_e (G := G) (S := S) (M := M) (i := i5) (L := L) (hM1) (Or.inl (by omega))
            refine J.wsEq (ws2 := moC g ad th cC cT (cL.1, ((L.length : Nat) : Int), k5, h5, m5, (((mvL G S M L).length : Nat) : Int), cL.2.2.2.2.2.2.1, cL.2.2.2.2.2.2.2) cP) (by dsimp only; rw [q9]) ?_
            exact ret (k5, h5, m5) 0 0 _ _ dX7_lists_160 (by decide) (by decide) (by rw [← q9]; exact hm)
          · refine j_iload_n F dX7_lists_129 rfl 0 rfl ?_
            refine j_iconst F dX7_lists_130 ?_
            refine j_iadd F dX7_lists_131 ?_
            refine J.top (congrArg iI (show ((i5 : Int) + 1) = (((i5 + 1) : Nat) : Int) from by omega)) ?_
            refine j_istore_n F (lv' := [(2, .int (iI (((i5 + 1) : Nat) : Int))), (1, .int (iI (i5 : Int))), (0, .ref (ad 0))]) dX7_lists_132 rfl (by decide) rfl ?_
            refine J.loc [0, 1, 2] rfl ?_
            refine J.wsEq (ws2 := moC g ad th cC cT (cL.1, ((L.length : Nat) : Int), k5, h5, m5, (((sc2 G S L ++ mgL L.length i5 ++ mgR i5 0).length : Nat) : Int), cL.2.2.2.2.2.2.1, cL.2.2.2.2.2.2.2) cP) (by rw [mgR, List.append_nil]) ?_
            refine J_loop (σ := Nat × NF × NF × NF) (fun x9 : Nat × NF × NF × NF => match x9 with | (t, k2, h2, m2) => t ≤ L.length - 1 - i5 ∧ mrep3 (sc2 G S L ++ mgL L.length i5 ++ mgR i5 t) k2 h2 m2) (fun x9 : Nat × NF × NF × NF => match x9 with | (t, k2, h2, m2) => L.length - 1 - i5 - t) (fun x9 : Nat × NF × NF × NF => match x9 with | (t, k2, h2, m2) => moC g ad th cC cT (cL.1, ((L.length : Nat) : Int), k2, h2, m2, (((sc2 G S L ++ mgL L.length i5 ++ mgR i5 t).length : Nat) : Int), cL.2.2.2.2.2.2.1, cL.2.2.2.2.2.2.2) cP) (fun x9 : Nat × NF × NF × NF => match x9 with | (t, k2, h2, m2) => [(2, .int (iI (((i5 + 1 + t) : Nat) : Int))), (1, .int (iI (i5 : Int))), (0, .ref (ad 0))]) (0, k5, h5, m5) (by show 0 ≤ L.length - 1 - i5 ∧ mrep3 (sc2 G S L ++ mgL L.length i5 ++ mgR i5 0) k5 h5 m5; exact ⟨Nat.zero_le _, by rw [mgR, List.append_nil]; exact hm⟩) ?_
            rintro ⟨t, k2, h2, m2⟩ hI ih133
            have hI : t ≤ L.length - 1 - i5 ∧ mrep3 (sc2 G S L ++ mgL L.length i5 ++ mgR i5 t) k2 h2 m2 := hI
            obtain ⟨ht, hm2⟩ := hI
            refine j_iload_n F dX7_lists_133 rfl 0 rfl ?_
            refine j_aload_n F dX7_lists_134 rfl 2 rfl ?_
            refine j_getf F (ref := "CairnGameModel") (C := RX7) (T := TX7) (N := 27) (ci := 7) (index := 79) (v := .int (iI ((L.length : Nat) : Int))) (fun w h => (List.mem_cons_of_mem _ (List.mem_append_right _ h))) 0 rfl rfl 15 (by decide) (List.mem_cons_of_mem _ (List.mem_append_left _ (List.mem_of_getElem? (i := 1) rfl))) rfl rfl dX7_lists_135 ?_
            refine j_icmp_ge F (tgt := 154) dX7_lists_138 (by decide) ⟨(by unfold rg; omega), (by unfold rg; omega)⟩ (fun c138 => ?_) (fun c138 => ?_)
            · have et : t = L.length - 1 - i5 := by omega
              have hmE : mrep3 (sc2 G S L ++ mgL L.length (i5 + 1)) k2 h2 m2 := by rw [mgL, ← List.append_assoc, ← et]; exact hm2
              refine J.wsEq (ws2 := moC g ad th cC cT (cL.1, ((L.length : Nat) : Int), k2, h2, m2, (((sc2 G S L ++ mgL L.length (i5 + 1)).length : Nat) : Int), cL.2.2.2.2.2.2.1, cL.2.2.2.2.2.2.2) cP) (by rw [mgL, ← List.append_assoc, ← et]) ?_
              refine j_iinc F (lv' := [(1, .int (iI ((i5 : Int) + 1))), (2, .int (iI (((i5 + 1 + t) : Nat) : Int))), (0, .ref (ad 0))]) dX7_lists_154 1 rfl (by decide) rfl ?_
              refine j_goto F (tgt := 111) dX7_lists_157 (by decide) ?_
              refine J.loc [0, 2] rfl ?_
              exact ih111 ((i5 + 1), k2, h2, m2) (by show ((i5 + 1) ≤ L.length ∧ (M = 1 ∨ (i5 + 1) = 0)) ∧ mrep3 (sc2 G S L ++ mgL L.length (i5 + 1)) k2 h2 m2; exact ⟨by omega, hmE⟩) (by show L.length - (i5 + 1) < L.length - i5; omega)
            · refine j_aload_n F dX7_lists_141 rfl 2 rfl ?_
              refine j_iconst F dX7_lists_142 ?_
              refine j_iload_n F dX7_lists_143 rfl 1 rfl ?_
              refine j_iload_n F dX7_lists_144 rfl 0 rfl ?_
              refine j_callV_V F (As := [.int (iI 2), .int (iI (i5 : Int)), .int (iI (((i5 + 1 + t) : Nat) : Int))]) (wr := []) (st := []) (c_X7_adds hfl D g z ad th cC cT (cL.1, ((L.length : Nat) : Int), k2, h2, m2, (((sc2 G S L ++ mgL L.length i5 ++ mgR i5 t).length : Nat) : Int), cL.2.2.2.2.2.2.1, cL.2.2.2.2.2.2.2) cP (sc2 G S L ++ mgL L.length i5 ++ mgR i5 t).length 2 (i5 : Int) ((i5 + 1 + t : Nat) : Int) (by have h8 := mgL_step (N := L.length) (n := L.length) (i := i5) (by omega); have h7 := mv_len2 (G := G) (S := S) hL (show M = 1 by omega); simp only [List.length_append, mgR_len] at *; omega)) (idx := 82) (C := RX7) gX7_lists_X7_adds rfl rfl [0, 1, 2, 3, 4, 5, 6, 7, 8, 9, 10, 11, 12, 13, 14] [] rfl rfl (by decide) (by decide) (by decide) (ci := 7) (q0 := 0) rfl rfl (by decide) (by decide) (le_ble rfl) ⟨by decide, by decide⟩ dX7_lists_145 ?_
              rintro u9 h9
              refine J.wsEq (ws2 := moC g ad th cC cT (cL.1, ((L.length : Nat) : Int), (nup k2 (sc2 G S L ++ mgL L.length i5 ++ mgR i5 t).length 2), (nup h2 (sc2 G S L ++ mgL L.length i5 ++ mgR i5 t).length (i5 : Int)), (nup m2 (sc2 G S L ++ mgL L.length i5 ++ mgR i5 t).length ((i5 + 1 + t : Nat) : Int)), (((sc2 G S L ++ mgL L.length i5 ++ mgR i5 t).length : Int) + 1), cL.2.2.2.2.2.2.1, cL.2.2.2.2.2.2.2) cP) rfl ?_
              refine J.wsEq (ws2 := moC g ad th cC cT (cL.1, ((L.length : Nat) : Int), (nup k2 (sc2 G S L ++ mgL L.length i5 ++ mgR i5 t).length 2), (nup h2 (sc2 G S L ++ mgL L.length i5 ++ mgR i5 t).length (i5 : Int)), (nup m2 (sc2 G S L ++ mgL L.length i5 ++ mgR i5 t).length ((i5 + 1 + t : Nat) : Int)), (((sc2 G S L ++ mgL L.length i5 ++ mgR i5 (t + 1)).length : Nat) : Int), cL.2.2.2.2.2.2.1, cL.2.2.2.2.2.2.2) cP) (by rw [mgR, ← List.append_assoc, List.length_append (as := sc2 G S L ++ mgL L.length i5 ++ mgR i5 t)]; rfl) ?_
              refine j_iinc F (lv' := [(2, .int (iI ((((i5 + 1 + t) : Nat) : Int) + 1))), (1, .int (iI (i5 : Int))), (0, .ref (ad 0))]) dX7_lists_148 0 rfl (by decide) rfl ?_
              refine j_goto F (tgt := 133) dX7_lists_151 (by decide) ?_
              refine J.loc [0, 1, 2] rfl ?_
              exact ih133 ((t + 1), (nup k2 (sc2 G S L ++ mgL L.length i5 ++ mgR i5 t).length 2), (nup h2 (sc2 G S L ++ mgL L.length i5 ++ mgR i5 t).length (i5 : Int)), (nup m2 (sc2 G S L ++ mgL L.length i5 ++ mgR i5 t).length ((i5 + 1 + t : Nat) : Int))) (by show (t + 1) ≤ L.length - 1 - i5 ∧ mrep3 (sc2 G S L ++ mgL L.length i5 ++ mgR i5 (t + 1)) (nup k2 (sc2 G S L ++ mgL L.length i5 ++ mgR i5 t).length 2) (nup h2 (sc2 G S L ++ mgL L.length i5 ++ mgR i5 t).length (i5 : Int)) (nup m2 (sc2 G S L ++ mgL L.length i5 ++ mgR i5 t).length ((i5 + 1 + t : Nat) : Int)); exact ⟨by omega, by rw [mgR, ← List.append_assoc]; exact mrep3_push hm2 (2, i5, i5 + 1 + t) rfl rfl rfl⟩) (by show L.length - 1 - i5 - (t + 1) < L.length - 1 - i5 - t; omega)
      · have hx := okH_at hL (i := i3) (by omega)
        have hfi := hr i3 (by omega)
        refine j_iconst F dX7_lists_76 ?_
        refine j_istore_n F (lv' := [(2, .int (iI 1)), (1, .int (iI (i3 : Int))), (0, .ref (ad 0))]) dX7_lists_77 rfl (by decide) rfl ?_
        refine J.loc [0, 1, 2] rfl ?_
        refine J.wsEq (ws2 := moC g ad th cC cT (cL.1, ((L.length : Nat) : Int), k3, h3, m3, (((tkL G L L.length ++ spL L i3 ++ spR i3 0).length : Nat) : Int), cL.2.2.2.2.2.2.1, cL.2.2.2.2.2.2.2) cP) (by rw [spR, List.append_nil]) ?_
        refine J_loop (σ := Nat × NF × NF × NF) (fun x9 : Nat × NF × NF × NF => match x9 with | (t, k2, h2, m2) => t ≤ L.getD i3 0 / 2 ∧ mrep3 (tkL G L L.length ++ spL L i3 ++ spR i3 t) k2 h2 m2) (fun x9 : Nat × NF × NF × NF => match x9 with | (t, k2, h2, m2) => L.getD i3 0 / 2 - t) (fun x9 : Nat × NF × NF × NF => match x9 with | (t, k2, h2, m2) => moC g ad th cC cT (cL.1, ((L.length : Nat) : Int), k2, h2, m2, (((tkL G L L.length ++ spL L i3 ++ spR i3 t).length : Nat) : Int), cL.2.2.2.2.2.2.1, cL.2.2.2.2.2.2.2) cP) (fun x9 : Nat × NF × NF × NF => match x9 with | (t, k2, h2, m2) => [(2, .int (iI ((t : Int) + 1))), (1, .int (iI (i3 : Int))), (0, .ref (ad 0))]) (0, k3, h3, m3) (by show 0 ≤ L.getD i3 0 / 2 ∧ mrep3 (tkL G L L.length ++ spL L i3 ++ spR i3 0) k3 h3 m3; exact ⟨Nat.zero_le _, by rw [spR, List.append_nil]; exact hm⟩) ?_
        rintro ⟨t, k2, h2, m2⟩ hI ih78
        have hI : t ≤ L.getD i3 0 / 2 ∧ mrep3 (tkL G L L.length ++ spL L i3 ++ spR i3 t) k2 h2 m2 := hI
        obtain ⟨ht, hm2⟩ := hI
        refine j_iconst F dX7_lists_78 ?_
        refine j_iload_n F dX7_lists_79 rfl 0 rfl ?_
        refine j_imul F dX7_lists_80 ?_
        refine j_aload_n F dX7_lists_81 rfl 2 rfl ?_
        refine j_getf F (ref := "CairnGameModel") (C := RX7) (T := TX7) (N := 27) (ci := 7) (index := 37) (v := .ref (ad 14)) (fun w h => (List.mem_cons_of_mem _ (List.mem_append_right _ h))) 0 rfl rfl 14 (by decide) (List.mem_cons_of_mem _ (List.mem_append_left _ (List.mem_of_getElem? (i := 3) rfl))) rfl rfl dX7_lists_82 ?_
        refine j_iload_n F dX7_lists_85 rfl 1 rfl ?_
        refine j_iald F 10 (n := 12) (f := cL.1) rfl i3 (rfl) (by omega) (by decide) dX7_lists_86 ?_
        refine J.top (congrArg iI (show cL.1 i3 = (((L.getD i3 0) : Nat) : Int) from hfi)) ?_
        refine j_icmp_gt F (tgt := 103) dX7_lists_87 (by decide) ⟨(by unfold rg; omega), (by unfold rg; omega)⟩ (fun c87 => ?_) (fun c87 => ?_)
        · have et : t = L.getD i3 0 / 2 := by omega
          have hmE : mrep3 (tkL G L L.length ++ spL L (i3 + 1)) k2 h2 m2 := by rw [spL, ← List.append_assoc, ← et]; exact hm2
          refine J.wsEq (ws2 := moC g ad th cC cT (cL.1, ((L.length : Nat) : Int), k2, h2, m2, (((tkL G L L.length ++ spL L (i3 + 1)).length : Nat) : Int), cL.2.2.2.2.2.2.1, cL.2.2.2.2.2.2.2) cP) (by rw [spL, ← List.append_assoc, ← et]) ?_
          refine j_iinc F (lv' := [(1, .int (iI ((i3 : Int) + 1))), (2, .int (iI ((t : Int) + 1))), (0, .ref (ad 0))]) dX7_lists_103 1 rfl (by decide) rfl ?_
          refine j_goto F (tgt := 58) dX7_lists_106 (by decide) ?_
          refine J.loc [0, 2] rfl ?_
          exact ih58 ((i3 + 1), k2, h2, m2) (by show ((i3 + 1) ≤ L.length ∧ (S = 1 ∨ (i3 + 1) = 0)) ∧ mrep3 (tkL G L L.length ++ spL L (i3 + 1)) k2 h2 m2; exact ⟨by omega, hmE⟩) (by show L.length - (i3 + 1) < L.length - i3; omega)
        · refine j_aload_n F dX7_lists_90 rfl 2 rfl ?_
          refine j_iconst F dX7_lists_91 ?_
          refine j_iload_n F dX7_lists_92 rfl 1 rfl ?_
          refine j_iload_n F dX7_lists_93 rfl 0 rfl ?_
          refine j_callV_V F (As := [.int (iI 1), .int (iI (i3 : Int)), .int (iI ((t : Int) + 1))]) (wr := []) (st := []) (c_X7_adds hfl D g z ad th cC cT (cL.1, ((L.length : Nat) : Int), k2, h2, m2, (((tkL G L L.length ++ spL L i3 ++ spR i3 t).length : Nat) : Int), cL.2.2.2.2.2.2.1, cL.2.2.2.2.2.2.2) cP (tkL G L L.length ++ spL L i3 ++ spR i3 t).length 1 (i3 : Int) ((t : Int) + 1) (by have h8 := spL_step (L := L) (n := L.length) (i := i3) (by omega); have h7 := hl84.2.1 (by omega); simp only [List.length_append, spR_len] at *; omega)) (idx := 82) (C := RX7) gX7_lists_X7_adds rfl rfl [0, 1, 2, 3, 4, 5, 6, 7, 8, 9, 10, 11, 12, 13, 14] [] rfl rfl (by decide) (by decide) (by decide) (ci := 7) (q0 := 0) rfl rfl (by decide) (by decide) (le_ble rfl) ⟨by decide, by decide⟩ dX7_lists_94 ?_
          rintro u9 h9
          refine J.wsEq (ws2 := moC g ad th cC cT (cL.1, ((L.length : Nat) : Int), (nup k2 (tkL G L L.length ++ spL L i3 ++ spR i3 t).length 1), (nup h2 (tkL G L L.length ++ spL L i3 ++ spR i3 t).length (i3 : Int)), (nup m2 (tkL G L L.length ++ spL L i3 ++ spR i3 t).length ((t : Int) + 1)), (((tkL G L L.length ++ spL L i3 ++ spR i3 t).length : Int) + 1), cL.2.2.2.2.2.2.1, cL.2.2.2.2.2.2.2) cP) rfl ?_
          refine J.wsEq (ws2 := moC g ad th cC cT (cL.1, ((L.length : Nat) : Int), (nup k2 (tkL G L L.length ++ spL L i3 ++ spR i3 t).length 1), (nup h2 (tkL G L L.length ++ spL L i3 ++ spR i3 t).length (i3 : Int)), (nup m2 (tkL G L L.length ++ spL L i3 ++ spR i3 t).length ((t : Int) + 1)), (((tkL G L L.length ++ spL L i3 ++ spR i3 (t + 1)).length : Nat) : Int), cL.2.2.2.2.2.2.1, cL.2.2.2.2.2.2.2) cP) (by rw [spR, ← List.append_assoc, List.length_append (as := tkL G L L.length ++ spL L i3 ++ spR i3 t)]; rfl) ?_
          refine j_iinc F (lv' := [(2, .int (iI (((t : Int) + 1) + 1))), (1, .int (iI (i3 : Int))), (0, .ref (ad 0))]) dX7_lists_97 0 rfl (by decide) rfl ?_
          refine j_goto F (tgt := 78) dX7_lists_100 (by decide) ?_
          refine J.loc [0, 1, 2] rfl ?_
          exact ih78 ((t + 1), (nup k2 (tkL G L L.length ++ spL L i3 ++ spR i3 t).length 1), (nup h2 (tkL G L L.length ++ spL L i3 ++ spR i3 t).length (i3 : Int)), (nup m2 (tkL G L L.length ++ spL L i3 ++ spR i3 t).length ((t : Int) + 1))) (by show (t + 1) ≤ L.getD i3 0 / 2 ∧ mrep3 (tkL G L L.length ++ spL L i3 ++ spR i3 (t + 1)) (nup k2 (tkL G L L.length ++ spL L i3 ++ spR i3 t).length 1) (nup h2 (tkL G L L.length ++ spL L i3 ++ spR i3 t).length (i3 : Int)) (nup m2 (tkL G L L.length ++ spL L i3 ++ spR i3 t).length ((t : Int) + 1)); exact ⟨by omega, by rw [spR, ← List.append_assoc]; exact mrep3_push hm2 (1, i3, t + 1) rfl rfl rfl⟩) (by show L.getD i3 0 / 2 - (t + 1) < L.getD i3 0 / 2 - t; omega)
  · have hx := okH_at hL (i := i) (by omega)
    have hfi := hr i (by omega)
    refine j_iconst F dX7_lists_15 ?_
    refine j_istore_n F (lv' := [(2, .int (iI 1)), (1, .int (iI (i : Int))), (0, .ref (ad 0))]) dX7_lists_16 rfl (by decide) rfl ?_
    refine J.loc [0, 1, 2] rfl ?_
    refine J.wsEq (ws2 := moC g ad th cC cT (cL.1, ((L.length : Nat) : Int), k1, h1, m1, (((tkL G L i ++ tkR i 0).length : Nat) : Int), cL.2.2.2.2.2.2.1, cL.2.2.2.2.2.2.2) cP) (by rw [tkR, List.append_nil]) ?_
    refine J_loop (σ := Nat × NF × NF × NF) (fun x9 : Nat × NF × NF × NF => match x9 with | (t, k2, h2, m2) => t ≤ min (L.getD i 0) G ∧ mrep3 (tkL G L i ++ tkR i t) k2 h2 m2) (fun x9 : Nat × NF × NF × NF => match x9 with | (t, k2, h2, m2) => min (L.getD i 0) G - t) (fun x9 : Nat × NF × NF × NF => match x9 with | (t, k2, h2, m2) => moC g ad th cC cT (cL.1, ((L.length : Nat) : Int), k2, h2, m2, (((tkL G L i ++ tkR i t).length : Nat) : Int), cL.2.2.2.2.2.2.1, cL.2.2.2.2.2.2.2) cP) (fun x9 : Nat × NF × NF × NF => match x9 with | (t, k2, h2, m2) => [(2, .int (iI ((t : Int) + 1))), (1, .int (iI (i : Int))), (0, .ref (ad 0))]) (0, k1, h1, m1) (by show 0 ≤ min (L.getD i 0) G ∧ mrep3 (tkL G L i ++ tkR i 0) k1 h1 m1; exact ⟨Nat.zero_le _, by rw [tkR, List.append_nil]; exact hm⟩) ?_
    rintro ⟨t, k2, h2, m2⟩ hI ih17
    have hI : t ≤ min (L.getD i 0) G ∧ mrep3 (tkL G L i ++ tkR i t) k2 h2 m2 := hI
    obtain ⟨ht, hm2⟩ := hI
    refine j_iload_n F dX7_lists_17 rfl 0 rfl ?_
    refine j_aload_n F dX7_lists_18 rfl 2 rfl ?_
    refine j_getf F (ref := "CairnGameModel") (C := RX7) (T := TX7) (N := 27) (ci := 7) (index := 7) (v := .ref (ad 1)) (fun w h => (List.mem_cons_of_mem _ (List.mem_append_right _ h))) 0 rfl rfl 1 (by decide) (List.mem_cons_of_mem _ (List.mem_append_left _ (List.mem_of_getElem? (i := 2) rfl))) rfl rfl dX7_lists_19 ?_
    refine j_iconst F dX7_lists_22 ?_
    refine j_iald F 1 (n := 20) (f := cC.1) rfl 0 (by decide) (by decide) (by decide) dX7_lists_23 ?_
    refine J.top (congrArg iI (show cC.1 0 = (G : Int) from hst.1)) ?_
    refine j_icmp_gt F (tgt := 50) dX7_lists_24 (by decide) ⟨(by unfold rg; omega), (by unfold rg; omega)⟩ (fun c24 => ?_) (fun c24 => ?_)
    · have et : t = min (L.getD i 0) G := by omega
      have hmE : mrep3 (tkL G L (i + 1)) k2 h2 m2 := by rw [tkL, ← et]; exact hm2
      refine J.wsEq (ws2 := moC g ad th cC cT (cL.1, ((L.length : Nat) : Int), k2, h2, m2, (((tkL G L (i + 1)).length : Nat) : Int), cL.2.2.2.2.2.2.1, cL.2.2.2.2.2.2.2) cP) (by rw [tkL, ← et]) ?_
      refine j_iinc F (lv' := [(1, .int (iI ((i : Int) + 1))), (2, .int (iI ((t : Int) + 1))), (0, .ref (ad 0))]) dX7_lists_50 1 rfl (by decide) rfl ?_
      refine j_goto F (tgt := 7) dX7_lists_53 (by decide) ?_
      refine J.loc [0, 2] rfl ?_
      exact ih7 ((i + 1), k2, h2, m2) (by show ((i + 1) ≤ L.length) ∧ mrep3 (tkL G L (i + 1)) k2 h2 m2; exact ⟨by omega, hmE⟩) (by show L.length - (i + 1) < L.length - i; omega)
    · refine j_iload_n F dX7_lists_27 rfl 0 rfl ?_
      refine j_aload_n F dX7_lists_28 rfl 2 rfl ?_
      refine j_getf F (ref := "CairnGameModel") (C := RX7) (T := TX7) (N := 27) (ci := 7) (index := 37) (v := .ref (ad 14)) (fun w h => (List.mem_cons_of_mem _ (List.mem_append_right _ h))) 0 rfl rfl 14 (by decide) (List.mem_cons_of_mem _ (List.mem_append_left _ (List.mem_of_getElem? (i := 3) rfl))) rfl rfl dX7_lists_29 ?_
      refine j_iload_n F dX7_lists_32 rfl 1 rfl ?_
      refine j_iald F 10 (n := 12) (f := cL.1) rfl i (rfl) (by omega) (by decide) dX7_lists_33 ?_
      refine J.top (congrArg iI (show cL.1 i = (((L.getD i 0) : Nat) : Int) from hfi)) ?_
      refine j_icmp_gt F (tgt := 50) dX7_lists_34 (by decide) ⟨(by unfold rg; omega), (by unfold rg; omega)⟩ (fun c34 => ?_) (fun c34 => ?_)
      · have et : t = min (L.getD i 0) G := by omega
        have hmE : mrep3 (tkL G L (i + 1)) k2 h2 m2 := by rw [tkL, ← et]; exact hm2
        refine J.wsEq (ws2 := moC g ad th cC cT (cL.1, ((L.length : Nat) : Int), k2, h2, m2, (((tkL G L (i + 1)).length : Nat) : Int), cL.2.2.2.2.2.2.1, cL.2.2.2.2.2.2.2) cP) (by rw [tkL, ← et]) ?_
        refine j_iinc F (lv' := [(1, .int (iI ((i : Int) + 1))), (2, .int (iI ((t : Int) + 1))), (0, .ref (ad 0))]) dX7_lists_50 1 rfl (by decide) rfl ?_
        refine j_goto F (tgt := 7) dX7_lists_53 (by decide) ?_
        refine J.loc [0, 2] rfl ?_
        exact ih7 ((i + 1), k2, h2, m2) (by show ((i + 1) ≤ L.length) ∧ mrep3 (tkL G L (i + 1)) k2 h2 m2; exact ⟨by omega, hmE⟩) (by show L.length - (i + 1) < L.length - i; omega)
      · refine j_aload_n F dX7_lists_37 rfl 2 rfl ?_
        refine j_iconst F dX7_lists_38 ?_
        refine j_iload_n F dX7_lists_39 rfl 1 rfl ?_
        refine j_iload_n F dX7_lists_40 rfl 0 rfl ?_
        refine j_callV_V F (As := [.int (iI 0), .int (iI (i : Int)), .int (iI ((t : Int) + 1))]) (wr := []) (st := []) (c_X7_adds hfl D g z ad th cC cT (cL.1, ((L.length : Nat) : Int), k2, h2, m2, (((tkL G L i ++ tkR i t).length : Nat) : Int), cL.2.2.2.2.2.2.1, cL.2.2.2.2.2.2.2) cP (tkL G L i ++ tkR i t).length 0 (i : Int) ((t : Int) + 1) (by have h8 := tkL_step (G := G) (L := L) (n := L.length) (i := i) (by omega); simp only [List.length_append, tkR_len] at *; omega)) (idx := 82) (C := RX7) gX7_lists_X7_adds rfl rfl [0, 1, 2, 3, 4, 5, 6, 7, 8, 9, 10, 11, 12, 13, 14] [] rfl rfl (by decide) (by decide) (by decide) (ci := 7) (q0 := 0) rfl rfl (by decide) (by decide) (le_ble rfl) ⟨by decide, by decide⟩ dX7_lists_41 ?_
        rintro u9 h9
        refine J.wsEq (ws2 := moC g ad th cC cT (cL.1, ((L.length : Nat) : Int), (nup k2 (tkL G L i ++ tkR i t).length 0), (nup h2 (tkL G L i ++ tkR i t).length (i : Int)), (nup m2 (tkL G L i ++ tkR i t).length ((t : Int) + 1)), (((tkL G L i ++ tkR i t).length : Int) + 1), cL.2.2.2.2.2.2.1, cL.2.2.2.2.2.2.2) cP) rfl ?_
        refine J.wsEq (ws2 := moC g ad th cC cT (cL.1, ((L.length : Nat) : Int), (nup k2 (tkL G L i ++ tkR i t).length 0), (nup h2 (tkL G L i ++ tkR i t).length (i : Int)), (nup m2 (tkL G L i ++ tkR i t).length ((t : Int) + 1)), (((tkL G L i ++ tkR i (t + 1)).length : Nat) : Int), cL.2.2.2.2.2.2.1, cL.2.2.2.2.2.2.2) cP) (by rw [tkR, ← List.append_assoc, List.length_append (as := tkL G L i ++ tkR i t)]; rfl) ?_
        refine j_iinc F (lv' := [(2, .int (iI (((t : Int) + 1) + 1))), (1, .int (iI (i : Int))), (0, .ref (ad 0))]) dX7_lists_44 0 rfl (by decide) rfl ?_
        refine j_goto F (tgt := 17) dX7_lists_47 (by decide) ?_
        refine J.loc [0, 1, 2] rfl ?_
        exact ih17 ((t + 1), (nup k2 (tkL G L i ++ tkR i t).length 0), (nup h2 (tkL G L i ++ tkR i t).length (i : Int)), (nup m2 (tkL G L i ++ tkR i t).length ((t : Int) + 1))) (by show (t + 1) ≤ min (L.getD i 0) G ∧ mrep3 (tkL G L i ++ tkR i (t + 1)) (nup k2 (tkL G L i ++ tkR i t).length 0) (nup h2 (tkL G L i ++ tkR i t).length (i : Int)) (nup m2 (tkL G L i ++ tkR i t).length ((t : Int) + 1)); exact ⟨by omega, by rw [tkR, ← List.append_assoc]; exact mrep3_push hm2 (0, i, t + 1) rfl rfl rfl⟩) (by show min (L.getD i 0) G - (t + 1) < min (L.getD i 0) G - t; omega)

end X7A