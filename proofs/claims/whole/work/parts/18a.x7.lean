/-! ===== the model: lists of moves, the heaps behind a move ===== -/
section X7A
def mrep3 (ms : List Mv) (k h m : NF) : Prop := ∀ i, i < ms.length → k i = (((ms.getD i m0).1 : Nat) : Int) ∧ h i = (((ms.getD i m0).2.1 : Nat) : Int) ∧ m i = (((ms.getD i m0).2.2 : Nat) : Int)
theorem mrep3_0 (k h m : NF) : mrep3 [] k h m := fun i hi => absurd hi (Nat.not_lt_zero i)
theorem mrep3_push {ms : List Mv} {k h m : NF} (H : mrep3 ms k h m) (x : Mv) {v0 v1 v2 : Int} (h0 : v0 = (x.1 : Int)) (h1 : v1 = (x.2.1 : Int)) (h2 : v2 = (x.2.2 : Int)) : mrep3 (ms ++ [x]) (nup k ms.length v0) (nup h ms.length v1) (nup m ms.length v2) := by
  intro i hi
  rw [List.length_append] at hi
  by_cases q : i = ms.length
  · subst q
    rw [getD_app_r, nup_s, nup_s, nup_s]
    exact ⟨h0, h1, h2⟩
  · have q2 : i < ms.length := by simp only [List.length_cons, List.length_nil] at hi; omega
    rw [getD_app_l q2, nup_n _ _ (by omega), nup_n _ _ (by omega), nup_n _ _ (by omega)]
    exact H i q2

set_option maxHeartbeats 4000000 in
set_option maxRecDepth 100000 in
theorem c_X7_within {l : Launch} (hfl : l.flags = flags0) (D : va_G) (g : GT) (z : ZT) (x lo9 hi9 : Int) (hx : rg x) (hlo : rg lo9) (hhi : rg hi9) : CI l yX7_within wsX7_within 1 22 3 D g z [.int (iI x), .int (iI lo9), .int (iI hi9)] ([]) (fun (r9 : Int32) (u9 : Unit) => r9 = iI (b2 (lo9 ≤ x ∧ x ≤ hi9))) (fun (u9 : Unit) => []) 0 0 := by
  refine CI_of hfl (own := RX7) ⟨0, 0, 0, 0⟩ 1 22 3 (by decide +kernel) rfl rfl ⟨by decide, by decide, by decide +kernel⟩ ⟨by decide, by decide⟩ (le_ble rfl) (fun _ _ h => nar_b2 h) ?_
  intro p e s m below meth c A Q F ret
  change J p l e _ s m _ below meth c A D _ Q 0 0 ([]) [(0, .int (iI x)), (1, .int (iI lo9)), (2, .int (iI hi9))] [] 0
  refine j_iload_n F dX7_within_0 rfl 0 rfl ?_
  refine j_iload_n F dX7_within_1 rfl 1 rfl ?_
  refine j_icmp_lt F (tgt := 14) dX7_within_2 (by decide) ⟨(by assumption), (by assumption)⟩ (fun c2 => ?_) (fun c2 => ?_)
  · refine j_iconst F dX7_within_14 ?_
    exact ret _ () 0 0 _ _ dX7_within_15 (by decide) (by decide) (by first | (refine congrArg iI (Eq.symm (b2_t ?_)); omega) | (refine congrArg iI (Eq.symm (b2_f ?_)); omega))
  · refine j_iload_n F dX7_within_5 rfl 0 rfl ?_
    refine j_iload_n F dX7_within_6 rfl 2 rfl ?_
    refine j_icmp_gt F (tgt := 14) dX7_within_7 (by decide) ⟨(by assumption), (by assumption)⟩ (fun c7 => ?_) (fun c7 => ?_)
    · refine j_iconst F dX7_within_14 ?_
      exact ret _ () 0 0 _ _ dX7_within_15 (by decide) (by decide) (by first | (refine congrArg iI (Eq.symm (b2_t ?_)); omega) | (refine congrArg iI (Eq.symm (b2_f ?_)); omega))
    · refine j_iconst F dX7_within_10 ?_
      refine j_goto F (tgt := 15) dX7_within_11 (by decide) ?_
      exact ret _ () 0 0 _ _ dX7_within_15 (by decide) (by decide) (by first | (refine congrArg iI (Eq.symm (b2_t ?_)); omega) | (refine congrArg iI (Eq.symm (b2_f ?_)); omega))

set_option maxHeartbeats 4000000 in
set_option maxRecDepth 100000 in
theorem c_X7_thrown {l : Launch} (hfl : l.flags = flags0) (D : va_G) (g : GT) (z : ZT) (ad : Nat → Nat) (th : Int) (cC : CT) (cT : TT) (cL : LT) (cP : PT) : CI l yX7_thrown wsX7_thrown 1 20 0 D g z [.ref (ad 0)] (moC g ad th cC cT cL cP) (fun (r9 : Int32) (u9 : Unit) => r9 = iI th) (fun (u9 : Unit) => moC g ad th cC cT cL cP) 0 0 := by
  refine CI_of hfl (own := RX7) ⟨0, 0, 0, 0⟩ 1 20 0 (by decide +kernel) rfl rfl ⟨by decide, by decide, by decide +kernel⟩ ⟨by decide, by decide⟩ (le_ble rfl) (fun _ _ _ => rfl) ?_
  intro p e s m below meth c A Q F ret
  change J p l e _ s m _ below meth c A D _ Q 0 0 (moC g ad th cC cT cL cP) [(0, .ref (ad 0))] [] 0
  refine j_aload_n F dX7_thrown_0 rfl 0 rfl ?_
  refine j_getf F (ref := "CairnGameModel") (C := RX7) (T := TX7) (N := 27) (ci := 7) (index := 60) (v := .int (iI th)) (fun w h => (List.mem_cons_of_mem _ (List.mem_append_right _ h))) 0 rfl rfl 0 (by decide) (List.mem_cons_of_mem _ (List.mem_append_left _ (List.mem_of_getElem? (i := 0) rfl))) rfl rfl dX7_thrown_1 ?_
  exact ret _ () 0 0 _ _ dX7_thrown_4 (by decide) (by decide) rfl

set_option maxHeartbeats 4000000 in
set_option maxRecDepth 100000 in
theorem c_X7_tells {l : Launch} (hfl : l.flags = flags0) (D : va_G) (g : GT) (z : ZT) (ad : Nat → Nat) (th : Int) (cC : CT) (cT : TT) (cL : LT) (cP : PT) (x : Int) : CI l yX7_tells wsX7_tells 1 21 1 D g z [.ref (ad 0), .int (iI x)] (moC g ad th cC cT cL cP) (fun (r9 : Int32) (u9 : Unit) => r9 = iI x) (fun (u9 : Unit) => moC g ad 0 cC cT cL cP) 0 0 := by
  refine CI_of hfl (own := RX7) ⟨0, 0, 0, 0⟩ 1 21 1 (by decide +kernel) rfl rfl ⟨by decide, by decide, by decide +kernel⟩ ⟨by decide, by decide⟩ (le_ble rfl) (fun _ _ _ => rfl) ?_
  intro p e s m below meth c A Q F ret
  change J p l e _ s m _ below meth c A D _ Q 0 0 (moC g ad th cC cT cL cP) [(0, .ref (ad 0)), (1, .int (iI x))] [] 0
  refine j_aload_n F dX7_tells_0 rfl 0 rfl ?_
  refine j_iconst F dX7_tells_1 ?_
  refine j_putf F (ref := "CairnGameModel") (C := RX7) (T := TX7) (N := 27) (ci := 7) (index := 60) (ty := .int) (ws' := moC g ad 0 cC cT cL cP) (fun w h => (List.mem_cons_of_mem _ (List.mem_append_right _ h))) tyX7 tyX7_ok nmX7 0 rfl rfl 0 (by decide) (List.mem_cons_of_mem _ (List.mem_append_left _ (List.mem_of_getElem? (i := 0) rfl))) rfl rfl rfl rfl rfl (lt_ble rfl) rfl dX7_tells_2 ?_
  refine j_iload_n F dX7_tells_5 rfl 1 rfl ?_
  exact ret _ () 0 0 _ _ dX7_tells_6 (by decide) (by decide) rfl

set_option maxHeartbeats 4000000 in
set_option maxRecDepth 100000 in
theorem c_X7_adds {l : Launch} (hfl : l.flags = flags0) (D : va_G) (g : GT) (z : ZT) (ad : Nat → Nat) (th : Int) (cC : CT) (cT : TT) (cL : LT) (cP : PT) (n9 : Nat) (kd hp am : Int) (hn : n9 < 100) : CV l yX7_adds wsX7_adds 1 23 3 D g z [.ref (ad 0), .int (iI kd), .int (iI hp), .int (iI am)] (moC g ad th cC cT (cL.1, cL.2.1, cL.2.2.1, cL.2.2.2.1, cL.2.2.2.2.1, ((n9 : Nat) : Int), cL.2.2.2.2.2.2.1, cL.2.2.2.2.2.2.2) cP) (fun (u9 : Unit) => True) (fun (u9 : Unit) => moC g ad th cC cT (cL.1, cL.2.1, (nup cL.2.2.1 n9 kd), (nup cL.2.2.2.1 n9 hp), (nup cL.2.2.2.2.1 n9 am), ((n9 : Int) + 1), cL.2.2.2.2.2.2.1, cL.2.2.2.2.2.2.2) cP) 0 0 := by
  refine CV_of hfl (own := RX7) ⟨0, 0, 0, 0⟩ 1 23 3 (by decide +kernel) rfl rfl ⟨by decide, by decide, by decide +kernel⟩ ⟨by decide, by decide⟩ (le_ble rfl) ?_
  intro p e s m below meth c A Q F hin ret
  change J p l e _ s m _ below meth c A D _ Q 0 0 (moC g ad th cC cT (cL.1, cL.2.1, cL.2.2.1, cL.2.2.2.1, cL.2.2.2.2.1, ((n9 : Nat) : Int), cL.2.2.2.2.2.2.1, cL.2.2.2.2.2.2.2) cP) [(0, .ref (ad 0)), (1, .int (iI kd)), (2, .int (iI hp)), (3, .int (iI am))] [] 0
  refine j_aload_n F dX7_adds_0 rfl 0 rfl ?_
  refine j_getf F (ref := "CairnGameModel") (C := RX7) (T := TX7) (N := 27) (ci := 7) (index := 40) (v := .ref (ad 16)) (fun w h => (List.mem_cons_of_mem _ (List.mem_append_right _ h))) 0 rfl rfl 16 (by decide) (List.mem_cons_of_mem _ (List.mem_append_left _ (List.mem_of_getElem? (i := 0) rfl))) rfl rfl dX7_adds_1 ?_
  refine j_aload_n F dX7_adds_4 rfl 0 rfl ?_
  refine j_getf F (ref := "CairnGameModel") (C := RX7) (T := TX7) (N := 27) (ci := 7) (index := 76) (v := .int (iI ((n9 : Nat) : Int))) (fun w h => (List.mem_cons_of_mem _ (List.mem_append_right _ h))) 0 rfl rfl 19 (by decide) (List.mem_cons_of_mem _ (List.mem_append_left _ (List.mem_of_getElem? (i := 1) rfl))) rfl rfl dX7_adds_5 ?_
  refine j_iload_n F dX7_adds_8 rfl 1 rfl ?_
  refine j_iast F (ws' := moC g ad th cC cT (cL.1, cL.2.1, nup cL.2.2.1 n9 kd, cL.2.2.2.1, cL.2.2.2.2.1, ((n9 : Nat) : Int), cL.2.2.2.2.2.2.1, cL.2.2.2.2.2.2.2) cP) 11 (n := 100) (f := cL.2.2.1) rfl n9 (by omega) (by omega) (by decide) rfl dX7_adds_9 ?_
  refine j_aload_n F dX7_adds_10 rfl 0 rfl ?_
  refine j_getf F (ref := "CairnGameModel") (C := RX7) (T := TX7) (N := 27) (ci := 7) (index := 43) (v := .ref (ad 17)) (fun w h => (List.mem_cons_of_mem _ (List.mem_append_right _ h))) 0 rfl rfl 17 (by decide) (List.mem_cons_of_mem _ (List.mem_append_left _ (List.mem_of_getElem? (i := 2) rfl))) rfl rfl dX7_adds_11 ?_
  refine j_aload_n F dX7_adds_14 rfl 0 rfl ?_
  refine j_getf F (ref := "CairnGameModel") (C := RX7) (T := TX7) (N := 27) (ci := 7) (index := 76) (v := .int (iI ((n9 : Nat) : Int))) (fun w h => (List.mem_cons_of_mem _ (List.mem_append_right _ h))) 0 rfl rfl 19 (by decide) (List.mem_cons_of_mem _ (List.mem_append_left _ (List.mem_of_getElem? (i := 1) rfl))) rfl rfl dX7_adds_15 ?_
  refine j_iload_n F dX7_adds_18 rfl 2 rfl ?_
  refine j_iast F (ws' := moC g ad th cC cT (cL.1, cL.2.1, nup cL.2.2.1 n9 kd, nup cL.2.2.2.1 n9 hp, cL.2.2.2.2.1, ((n9 : Nat) : Int), cL.2.2.2.2.2.2.1, cL.2.2.2.2.2.2.2) cP) 12 (n := 100) (f := cL.2.2.2.1) rfl n9 (by omega) (by omega) (by decide) rfl dX7_adds_19 ?_
  refine j_aload_n F dX7_adds_20 rfl 0 rfl ?_
  refine j_getf F (ref := "CairnGameModel") (C := RX7) (T := TX7) (N := 27) (ci := 7) (index := 46) (v := .ref (ad 18)) (fun w h => (List.mem_cons_of_mem _ (List.mem_append_right _ h))) 0 rfl rfl 18 (by decide) (List.mem_cons_of_mem _ (List.mem_append_left _ (List.mem_of_getElem? (i := 3) rfl))) rfl rfl dX7_adds_21 ?_
  refine j_aload_n F dX7_adds_24 rfl 0 rfl ?_
  refine j_getf F (ref := "CairnGameModel") (C := RX7) (T := TX7) (N := 27) (ci := 7) (index := 76) (v := .int (iI ((n9 : Nat) : Int))) (fun w h => (List.mem_cons_of_mem _ (List.mem_append_right _ h))) 0 rfl rfl 19 (by decide) (List.mem_cons_of_mem _ (List.mem_append_left _ (List.mem_of_getElem? (i := 1) rfl))) rfl rfl dX7_adds_25 ?_
  refine j_iload_n F dX7_adds_28 rfl 3 rfl ?_
  refine j_iast F (ws' := moC g ad th cC cT (cL.1, cL.2.1, nup cL.2.2.1 n9 kd, nup cL.2.2.2.1 n9 hp, nup cL.2.2.2.2.1 n9 am, ((n9 : Nat) : Int), cL.2.2.2.2.2.2.1, cL.2.2.2.2.2.2.2) cP) 13 (n := 100) (f := cL.2.2.2.2.1) rfl n9 (by omega) (by omega) (by decide) rfl dX7_adds_29 ?_
  refine j_aload_n F dX7_adds_30 rfl 0 rfl ?_
  refine j_dup F dX7_adds_31 rfl ?_
  refine j_getf F (ref := "CairnGameModel") (C := RX7) (T := TX7) (N := 27) (ci := 7) (index := 76) (v := .int (iI ((n9 : Nat) : Int))) (fun w h => (List.mem_cons_of_mem _ (List.mem_append_right _ h))) 0 rfl rfl 19 (by decide) (List.mem_cons_of_mem _ (List.mem_append_left _ (List.mem_of_getElem? (i := 1) rfl))) rfl rfl dX7_adds_32 ?_
  refine j_iconst F dX7_adds_35 ?_
  refine j_iadd F dX7_adds_36 ?_
  refine j_putf F (ref := "CairnGameModel") (C := RX7) (T := TX7) (N := 27) (ci := 7) (index := 76) (ty := .int) (ws' := moC g ad th cC cT (cL.1, cL.2.1, nup cL.2.2.1 n9 kd, nup cL.2.2.2.1 n9 hp, nup cL.2.2.2.2.1 n9 am, (((n9 : Nat) : Int) + 1), cL.2.2.2.2.2.2.1, cL.2.2.2.2.2.2.2) cP) (fun w h => (List.mem_cons_of_mem _ (List.mem_append_right _ h))) tyX7 tyX7_ok nmX7 0 rfl rfl 19 (by decide) (List.mem_cons_of_mem _ (List.mem_append_left _ (List.mem_of_getElem? (i := 1) rfl))) rfl rfl rfl rfl rfl (lt_ble rfl) rfl dX7_adds_37 ?_
  exact ret () 0 0 _ _ dX7_adds_40 (by decide) (by decide) trivial

end X7A