/-! ===== Text: contracts ===== -/
section X5B
theorem rdI_ok (T : List Nat) (t : Nat) (hp am : Int) : (rdI T t hp am).1 = (rdI T t 0 0).1 ∧ (rdI T t hp am).2.1 = (rdI T t 0 0).2.1 ∧ (rdI T t hp am).2.2.1 = (rdI T t 0 0).2.2.1 := by
  unfold rdI
  split
  · exact ⟨rfl, rfl, rfl⟩
  · split
    · exact ⟨rfl, rfl, rfl⟩
    · split <;> exact ⟨rfl, rfl, rfl⟩
theorem rdI_v (T : List Nat) (t : Nat) (hp am : Int) (h : (rdI T t hp am).1 = 1) : rdI T t hp am = rdI T t 0 0 := by
  unfold rdI at h ⊢
  split
  · rename_i q
    rw [if_pos q] at h
    exact absurd (show (0 : Int) = 1 from h) (by decide)
  · rename_i q
    rw [if_neg q] at h
    split
    · rename_i q2
      rw [if_pos q2] at h
      exact absurd (show (0 : Int) = 1 from h) (by decide)
    · rename_i q2
      rw [if_neg q2] at h
      split
      · rename_i q3
        rw [if_pos q3] at h
        exact absurd (show (0 : Int) = 1 from h) (by decide)
      · rfl
theorem rdI_01 (T : List Nat) (t : Nat) (hp am : Int) : (rdI T t hp am).1 = 0 ∨ (rdI T t hp am).1 = 1 := by
  unfold rdI
  split
  · exact Or.inl rfl
  · split
    · exact Or.inl rfl
    · split
      · exact Or.inl rfl
      · show (if _ then (0 : Int) else 1) = 0 ∨ (if _ then (0 : Int) else 1) = 1
        split
        · exact Or.inl rfl
        · exact Or.inr rfl
theorem rdI_b (T : List Nat) (t : Nat) (hp am : Int) : t ≤ (rdI T t hp am).2.1 ∧ (rdI T t hp am).2.1 ≤ t + 6 ∧ ((rdI T t hp am).1 = 1 → t + 3 ≤ (rdI T t hp am).2.1) := by
  have h1 := rdH_b T (t + 1)
  have h2 := rdA_b T ((rdH T (t + 1)).2 + 1) (kindT (sgT T t))
  unfold rdI
  split
  · exact ⟨Nat.le_refl t, by show t ≤ t + 6; omega, fun h => absurd (show (0 : Int) = 1 from h) (by decide)⟩
  · split
    · refine ⟨?_, ?_, fun h => absurd (show (0 : Int) = 1 from h) (by decide)⟩
      · show t ≤ (rdH T (t + 1)).2; omega
      · show (rdH T (t + 1)).2 ≤ t + 6; omega
    · rename_i q3
      split
      · refine ⟨?_, ?_, fun h => absurd (show (0 : Int) = 1 from h) (by decide)⟩
        · show t ≤ (rdH T (t + 1)).2; omega
        · show (rdH T (t + 1)).2 ≤ t + 6; omega
      · refine ⟨?_, ?_, fun _ => ?_⟩
        · show t ≤ (rdA T _ _).2; omega
        · show (rdA T _ _).2 ≤ t + 6; omega
        · show t + 3 ≤ (rdA T _ _).2
          have h3 : t + 2 ≤ (rdH T (t + 1)).2 := by
            unfold rdH at q3 ⊢
            split
            · rename_i z
              rw [if_pos z] at q3
              exact absurd rfl q3
            · split
              · split
                · show t + 2 ≤ t + 1 + 2; omega
                · split
                  · show t + 2 ≤ t + 1 + 2; omega
                  · show t + 2 ≤ t + 1 + 1; omega
              · show t + 2 ≤ t + 1 + 1; omega
          omega
/-- what firstError finds; n items may still be read -/
def erF (T : List Nat) : Nat → Nat → Int
  | 0, t => (t : Int)
  | n + 1, t => if (rdI T t 0 0).1 = 0 then (((rdI T t 0 0).2.1 : Nat) : Int) else if T.length ≤ (rdI T t 0 0).2.1 then -1 else if sgT T (rdI T t 0 0).2.1 = 44 then erF T n ((rdI T t 0 0).2.1 + 1) else (((rdI T t 0 0).2.1 : Nat) : Int)
def erT (T : List Nat) : Int := erF T 60 0

set_option maxHeartbeats 4000000 in
set_option maxRecDepth 100000 in
theorem c_X5_init {l : Launch} (hfl : l.flags = flags0) (D : va_G) (g : GT) (z : ZT) (a : Nat) : CV l yX5_init wsX5_init 2 40 0 D g z [.ref a] ([(a, .inr (5, [.null, .int (iI 0), .int (iI 0), .int (iI 0), .int (iI 0), .int (iI 0)]))]) (fun (u9 : Nat) => True) (fun (u9 : Nat) => txC g a u9 0 0 (-1) (-1) (-1) (fun _ => 0)) 1 60 := by
  refine CV_of hfl (own := RX5) ⟨1, 1, 60, 20⟩ 2 40 0 (by decide +kernel) rfl rfl ⟨by decide, by decide, by decide +kernel⟩ ⟨by decide, by decide⟩ (le_ble rfl) ?_
  intro p e s m below meth c A Q F hin ret
  change J p l e _ s m _ below meth c A D _ Q 0 0 ([(a, .inr (5, [.null, .int (iI 0), .int (iI 0), .int (iI 0), .int (iI 0), .int (iI 0)]))]) [(0, .ref a)] [] 0
  refine j_aload_n F dX5_init_0 rfl 0 rfl ?_
  refine j_objInit F (List.mem_cons_of_mem _ (List.mem_append_left _ (List.mem_of_getElem? (i := 0) rfl))) (List.mem_cons_of_mem _ (List.mem_append_left _ (List.mem_of_getElem? (i := 1) rfl))) (List.mem_cons_of_mem _ (List.mem_append_left _ (List.mem_of_getElem? (i := 2) rfl))) (le_ble rfl) (by decide) (by decide) dX5_init_1 ?_
  refine j_aload_n F dX5_init_4 rfl 0 rfl ?_
  refine j_bipush F dX5_init_5 (by decide) ?_
  refine j_newa_c F (ws' := fun q7 => [(a, .inr (5, [.null, .int (iI 0), .int (iI 0), .int (iI 0), .int (iI 0), .int (iI 0)]))] ++ ([(q7, cR g 60 (fun _ => 0))])) 60 rfl (by decide) (List.mem_cons_of_mem _ (List.mem_append_left _ (List.mem_of_getElem? (i := 3) rfl))) (by decide) (by decide) dX5_init_7 (fun _ => rfl) (fun q7 => ?_)
  refine j_putF F hin (ref := "CairnGame$Text") (C := RX5) (T := TX5) (N := 6) (ci := 5) (index := 9) (ty := (.array .char)) (ws' := [(a, .inr (5, [.ref q7, .int (iI 0), .int (iI 0), .int (iI 0), .int (iI 0), .int (iI 0)]))] ++ ([(q7, cR g 60 (fun _ => 0))])) (fun w h => (List.mem_cons_of_mem _ (List.mem_append_right _ h))) tyX5 tyX5_ok nmX5 0 rfl rfl 0 (by decide) (List.mem_cons_of_mem _ (List.mem_append_left _ (List.mem_of_getElem? (i := 4) rfl))) rfl rfl rfl rfl rfl rfl (lt_ble rfl) rfl dX5_init_9 ?_
  refine j_aload_n F dX5_init_12 rfl 0 rfl ?_
  refine j_iconst F dX5_init_13 ?_
  refine j_putf F (ref := "CairnGame$Text") (C := RX5) (T := TX5) (N := 6) (ci := 5) (index := 15) (ty := .int) (ws' := [(a, .inr (5, [.ref q7, .int (iI 0), .int (iI 0), .int (iI 0), .int (iI 0), .int (iI 0)]))] ++ ([(q7, cR g 60 (fun _ => 0))])) (fun w h => (List.mem_cons_of_mem _ (List.mem_append_right _ h))) tyX5 tyX5_ok nmX5 0 rfl rfl 1 (by decide) (List.mem_cons_of_mem _ (List.mem_append_left _ (List.mem_of_getElem? (i := 5) rfl))) rfl rfl rfl rfl rfl (lt_ble rfl) rfl dX5_init_14 ?_
  refine j_aload_n F dX5_init_17 rfl 0 rfl ?_
  refine j_iconst F dX5_init_18 ?_
  refine j_putf F (ref := "CairnGame$Text") (C := RX5) (T := TX5) (N := 6) (ci := 5) (index := 19) (ty := .int) (ws' := [(a, .inr (5, [.ref q7, .int (iI 0), .int (iI 0), .int (iI 0), .int (iI 0), .int (iI 0)]))] ++ ([(q7, cR g 60 (fun _ => 0))])) (fun w h => (List.mem_cons_of_mem _ (List.mem_append_right _ h))) tyX5 tyX5_ok nmX5 0 rfl rfl 2 (by decide) (List.mem_cons_of_mem _ (List.mem_append_left _ (List.mem_of_getElem? (i := 6) rfl))) rfl rfl rfl rfl rfl (lt_ble rfl) rfl dX5_init_19 ?_
  refine j_aload_n F dX5_init_22 rfl 0 rfl ?_
  refine j_iconst F dX5_init_23 ?_
  refine j_putf F (ref := "CairnGame$Text") (C := RX5) (T := TX5) (N := 6) (ci := 5) (index := 22) (ty := .int) (ws' := [(a, .inr (5, [.ref q7, .int (iI 0), .int (iI 0), .int (iI (-1)), .int (iI 0), .int (iI 0)]))] ++ ([(q7, cR g 60 (fun _ => 0))])) (fun w h => (List.mem_cons_of_mem _ (List.mem_append_right _ h))) tyX5 tyX5_ok nmX5 0 rfl rfl 3 (by decide) (List.mem_cons_of_mem _ (List.mem_append_left _ (List.mem_of_getElem? (i := 7) rfl))) rfl rfl rfl rfl rfl (lt_ble rfl) rfl dX5_init_24 ?_
  refine j_aload_n F dX5_init_27 rfl 0 rfl ?_
  refine j_iconst F dX5_init_28 ?_
  refine j_putf F (ref := "CairnGame$Text") (C := RX5) (T := TX5) (N := 6) (ci := 5) (index := 25) (ty := .int) (ws' := [(a, .inr (5, [.ref q7, .int (iI 0), .int (iI 0), .int (iI (-1)), .int (iI (-1)), .int (iI 0)]))] ++ ([(q7, cR g 60 (fun _ => 0))])) (fun w h => (List.mem_cons_of_mem _ (List.mem_append_right _ h))) tyX5 tyX5_ok nmX5 0 rfl rfl 4 (by decide) (List.mem_cons_of_mem _ (List.mem_append_left _ (List.mem_of_getElem? (i := 8) rfl))) rfl rfl rfl rfl rfl (lt_ble rfl) rfl dX5_init_29 ?_
  refine j_aload_n F dX5_init_32 rfl 0 rfl ?_
  refine j_iconst F dX5_init_33 ?_
  refine j_putf F (ref := "CairnGame$Text") (C := RX5) (T := TX5) (N := 6) (ci := 5) (index := 28) (ty := .int) (ws' := [(a, .inr (5, [.ref q7, .int (iI 0), .int (iI 0), .int (iI (-1)), .int (iI (-1)), .int (iI (-1))]))] ++ ([(q7, cR g 60 (fun _ => 0))])) (fun w h => (List.mem_cons_of_mem _ (List.mem_append_right _ h))) tyX5 tyX5_ok nmX5 0 rfl rfl 5 (by decide) (List.mem_cons_of_mem _ (List.mem_append_left _ (List.mem_of_getElem? (i := 9) rfl))) rfl rfl rfl rfl rfl (lt_ble rfl) rfl dX5_init_34 ?_
  exact ret q7 1 60 _ _ dX5_init_37 (by decide) (by decide) trivial

set_option maxHeartbeats 4000000 in
set_option maxRecDepth 100000 in
theorem c_X5_add {l : Launch} (hfl : l.flags = flags0) (D : va_G) (g : GT) (z : ZT) (a b n : Nat) (at9 kd hp am w : Int) (f : NF) (hn : n < 60) (hw : 0 ≤ w ∧ w < 65536) : CV l yX5_add wsX5_add 1 21 1 D g z [.ref a, .int (iI w)] (txC g a b (n : Int) at9 kd hp am f) (fun (u9 : Unit) => True) (fun (u9 : Unit) => txC g a b ((n : Int) + 1) at9 kd hp am (nup f n w)) 0 0 := by
  refine CV_of hfl (own := RX5) ⟨0, 0, 0, 0⟩ 1 21 1 (by decide +kernel) rfl rfl ⟨by decide, by decide, by decide +kernel⟩ ⟨by decide, by decide⟩ (le_ble rfl) ?_
  intro p e s m below meth c A Q F hin ret
  change J p l e _ s m _ below meth c A D _ Q 0 0 (txC g a b (n : Int) at9 kd hp am f) [(0, .ref a), (1, .int (iI w))] [] 0
  refine j_aload_n F dX5_add_0 rfl 0 rfl ?_
  refine j_getf F (ref := "CairnGame$Text") (C := RX5) (T := TX5) (N := 6) (ci := 5) (index := 15) (v := .int (iI (n : Int))) (fun w h => (List.mem_cons_of_mem _ (List.mem_append_right _ h))) 0 rfl rfl 1 (by decide) (List.mem_cons_of_mem _ (List.mem_append_left _ (List.mem_of_getElem? (i := 0) rfl))) rfl rfl dX5_add_1 ?_
  refine j_bipush F dX5_add_4 (by decide) ?_
  refine j_icmp_ge F (tgt := 29) dX5_add_6 (by decide) ⟨(by unfold rg; omega), (by unfold rg; omega)⟩ (fun h9 => by exfalso; omega) (fun c6 => ?_)
  refine j_aload_n F dX5_add_9 rfl 0 rfl ?_
  refine j_getf F (ref := "CairnGame$Text") (C := RX5) (T := TX5) (N := 6) (ci := 5) (index := 9) (v := .ref b) (fun w h => (List.mem_cons_of_mem _ (List.mem_append_right _ h))) 0 rfl rfl 0 (by decide) (List.mem_cons_of_mem _ (List.mem_append_left _ (List.mem_of_getElem? (i := 1) rfl))) rfl rfl dX5_add_10 ?_
  refine j_aload_n F dX5_add_13 rfl 0 rfl ?_
  refine j_getf F (ref := "CairnGame$Text") (C := RX5) (T := TX5) (N := 6) (ci := 5) (index := 15) (v := .int (iI (n : Int))) (fun w h => (List.mem_cons_of_mem _ (List.mem_append_right _ h))) 0 rfl rfl 1 (by decide) (List.mem_cons_of_mem _ (List.mem_append_left _ (List.mem_of_getElem? (i := 0) rfl))) rfl rfl dX5_add_14 ?_
  refine j_iload_n F dX5_add_17 rfl 1 rfl ?_
  refine j_cast F (ws' := txC g a b (n : Int) at9 kd hp am (nup f n w)) 1 (n := 60) (f := f) rfl n (rfl) (by omega) (by decide) (by omega) rfl dX5_add_18 ?_
  refine j_aload_n F dX5_add_19 rfl 0 rfl ?_
  refine j_dup F dX5_add_20 rfl ?_
  refine j_getf F (ref := "CairnGame$Text") (C := RX5) (T := TX5) (N := 6) (ci := 5) (index := 15) (v := .int (iI (n : Int))) (fun w h => (List.mem_cons_of_mem _ (List.mem_append_right _ h))) 0 rfl rfl 1 (by decide) (List.mem_cons_of_mem _ (List.mem_append_left _ (List.mem_of_getElem? (i := 0) rfl))) rfl rfl dX5_add_21 ?_
  refine j_iconst F dX5_add_24 ?_
  refine j_iadd F dX5_add_25 ?_
  refine j_putf F (ref := "CairnGame$Text") (C := RX5) (T := TX5) (N := 6) (ci := 5) (index := 15) (ty := .int) (ws' := txC g a b ((n : Int) + 1) at9 kd hp am (nup f n w)) (fun w h => (List.mem_cons_of_mem _ (List.mem_append_right _ h))) tyX5 tyX5_ok nmX5 0 rfl rfl 1 (by decide) (List.mem_cons_of_mem _ (List.mem_append_left _ (List.mem_of_getElem? (i := 0) rfl))) rfl rfl rfl rfl rfl (lt_ble rfl) rfl dX5_add_26 ?_
  exact ret () 0 0 _ _ dX5_add_29 (by decide) (by decide) trivial

set_option maxHeartbeats 4000000 in
set_option maxRecDepth 100000 in
theorem c_X5_signHere {l : Launch} (hfl : l.flags = flags0) (D : va_G) (g : GT) (z : ZT) (a b t : Nat) (T : List Nat) (kd hp am : Int) (f : NF) (hT : txOK T) (hr : rep f T) (ht : t < 1000) : CI l yX5_signHere wsX5_signHere 1 20 0 D g z [.ref a] (txC g a b ((T.length : Nat) : Int) (t : Int) kd hp am f) (fun (r9 : Int32) (u9 : Unit) => r9 = iI ((sgT T t : Nat) : Int)) (fun (u9 : Unit) => txC g a b ((T.length : Nat) : Int) (t : Int) kd hp am f) 0 0 := by
  refine CI_of hfl (own := RX5) ⟨0, 0, 0, 0⟩ 1 20 0 (by decide +kernel) rfl rfl ⟨by decide, by decide, by decide +kernel⟩ ⟨by decide, by decide⟩ (le_ble rfl) (fun _ _ h => by rw [h]; exact (nar_c0 (by have := sgT_lt hT t; omega)).1) ?_
  intro p e s m below meth c A Q F ret
  change J p l e _ s m _ below meth c A D _ Q 0 0 (txC g a b ((T.length : Nat) : Int) (t : Int) kd hp am f) [(0, .ref a)] [] 0
  have hTl := hT.1
  refine j_aload_n F dX5_signHere_0 rfl 0 rfl ?_
  refine j_getf F (ref := "CairnGame$Text") (C := RX5) (T := TX5) (N := 6) (ci := 5) (index := 19) (v := .int (iI (t : Int))) (fun w h => (List.mem_cons_of_mem _ (List.mem_append_right _ h))) 0 rfl rfl 2 (by decide) (List.mem_cons_of_mem _ (List.mem_append_left _ (List.mem_of_getElem? (i := 0) rfl))) rfl rfl dX5_signHere_1 ?_
  refine j_if_lt F (tgt := 30) dX5_signHere_4 (by decide) (by unfold rg; omega) (fun h9 => by exfalso; omega) (fun c4 => ?_)
  refine j_aload_n F dX5_signHere_7 rfl 0 rfl ?_
  refine j_getf F (ref := "CairnGame$Text") (C := RX5) (T := TX5) (N := 6) (ci := 5) (index := 19) (v := .int (iI (t : Int))) (fun w h => (List.mem_cons_of_mem _ (List.mem_append_right _ h))) 0 rfl rfl 2 (by decide) (List.mem_cons_of_mem _ (List.mem_append_left _ (List.mem_of_getElem? (i := 0) rfl))) rfl rfl dX5_signHere_8 ?_
  refine j_aload_n F dX5_signHere_11 rfl 0 rfl ?_
  refine j_getf F (ref := "CairnGame$Text") (C := RX5) (T := TX5) (N := 6) (ci := 5) (index := 15) (v := .int (iI ((T.length : Nat) : Int))) (fun w h => (List.mem_cons_of_mem _ (List.mem_append_right _ h))) 0 rfl rfl 1 (by decide) (List.mem_cons_of_mem _ (List.mem_append_left _ (List.mem_of_getElem? (i := 1) rfl))) rfl rfl dX5_signHere_12 ?_
  refine j_icmp_ge F (tgt := 30) dX5_signHere_15 (by decide) ⟨(by unfold rg; omega), (by unfold rg; omega)⟩ (fun c15 => ?_) (fun c15 => ?_)
  · refine j_iconst F dX5_signHere_30 ?_
    exact ret _ () 0 0 _ _ dX5_signHere_31 (by decide) (by decide) (by rw [sgT_out (by omega)]; rfl)
  · refine j_aload_n F dX5_signHere_18 rfl 0 rfl ?_
    refine j_getf F (ref := "CairnGame$Text") (C := RX5) (T := TX5) (N := 6) (ci := 5) (index := 9) (v := .ref b) (fun w h => (List.mem_cons_of_mem _ (List.mem_append_right _ h))) 0 rfl rfl 0 (by decide) (List.mem_cons_of_mem _ (List.mem_append_left _ (List.mem_of_getElem? (i := 2) rfl))) rfl rfl dX5_signHere_19 ?_
    refine j_aload_n F dX5_signHere_22 rfl 0 rfl ?_
    refine j_getf F (ref := "CairnGame$Text") (C := RX5) (T := TX5) (N := 6) (ci := 5) (index := 19) (v := .int (iI (t : Int))) (fun w h => (List.mem_cons_of_mem _ (List.mem_append_right _ h))) 0 rfl rfl 2 (by decide) (List.mem_cons_of_mem _ (List.mem_append_left _ (List.mem_of_getElem? (i := 0) rfl))) rfl rfl dX5_signHere_23 ?_
    refine j_cald F 1 (n := 60) (f := f) rfl t (rfl) (by omega) (by decide) dX5_signHere_26 ?_
    refine J.top (congrArg iI (show f t = (((T.getD t 0) : Nat) : Int) from hr t (by omega))) ?_
    refine j_goto F (tgt := 31) dX5_signHere_27 (by decide) ?_
    exact ret _ () 0 0 _ _ dX5_signHere_31 (by decide) (by decide) (by rw [sgT_in (by omega)])

set_option maxHeartbeats 4000000 in
set_option maxRecDepth 100000 in
theorem c_X5_readSign {l : Launch} (hfl : l.flags = flags0) (D : va_G) (g : GT) (z : ZT) (a b t : Nat) (T : List Nat) (kd hp am : Int) (f : NF) (w : Nat) (hT : txOK T) (hr : rep f T) (ht : t < 1000) (hw : w < 1000) : CI l yX5_readSign wsX5_readSign 2 41 1 D g z [.ref a, .int (iI (w : Int))] (txC g a b ((T.length : Nat) : Int) (t : Int) kd hp am f) (fun (r9 : Int32) (u9 : Unit) => r9 = iI (b2 (sgT T t = w))) (fun (u9 : Unit) => txC g a b ((T.length : Nat) : Int) ((rdS T t w : Nat) : Int) kd hp am f) 0 0 := by
  refine CI_of hfl (own := RX5) ⟨1, 0, 0, 20⟩ 2 41 1 (by decide +kernel) rfl rfl ⟨by decide, by decide, by decide +kernel⟩ ⟨by decide, by decide⟩ (le_ble rfl) (fun _ _ h => nar_b2 h) ?_
  intro p e s m below meth c A Q F ret
  change J p l e _ s m _ below meth c A D _ Q 0 0 (txC g a b ((T.length : Nat) : Int) (t : Int) kd hp am f) [(0, .ref a), (1, .int (iI (w : Int)))] [] 0
  refine j_aload_n F dX5_readSign_0 rfl 0 rfl ?_
  refine j_callV_I F (As := []) (wr := []) (st := []) (c_X5_signHere hfl D g z a b t T kd hp am f hT hr (by omega)) (idx := 41) (C := RX5) gX5_readSign_X5_signHere rfl rfl [0, 1] [] rfl rfl (by decide) (by decide) (by decide) (ci := 5) (q0 := 0) rfl rfl (by decide) (by decide) (le_ble rfl) ⟨by decide, by decide⟩ dX5_readSign_1 ?_
  rintro r9 u9 rfl
  refine J.wsEq (ws2 := txC g a b ((T.length : Nat) : Int) (t : Int) kd hp am f) rfl ?_
  refine j_iload_n F dX5_readSign_4 rfl 1 rfl ?_
  refine j_icmp_eq F (tgt := 10) dX5_readSign_5 (by decide) ⟨(by have := sgT_lt hT t; unfold rg; omega), (by have := sgT_lt hT t; unfold rg; omega)⟩ (fun c5 => ?_) (fun c5 => ?_)
  · refine j_aload_n F dX5_readSign_10 rfl 0 rfl ?_
    refine j_dup F dX5_readSign_11 rfl ?_
    refine j_getf F (ref := "CairnGame$Text") (C := RX5) (T := TX5) (N := 6) (ci := 5) (index := 19) (v := .int (iI (t : Int))) (fun w h => (List.mem_cons_of_mem _ (List.mem_append_right _ h))) 0 rfl rfl 2 (by decide) (List.mem_cons_of_mem _ (List.mem_append_left _ (List.mem_of_getElem? (i := 0) rfl))) rfl rfl dX5_readSign_12 ?_
    refine j_iconst F dX5_readSign_15 ?_
    refine j_iadd F dX5_readSign_16 ?_
    refine j_putf F (ref := "CairnGame$Text") (C := RX5) (T := TX5) (N := 6) (ci := 5) (index := 19) (ty := .int) (ws' := txC g a b ((T.length : Nat) : Int) ((t : Int) + 1) kd hp am f) (fun w h => (List.mem_cons_of_mem _ (List.mem_append_right _ h))) tyX5 tyX5_ok nmX5 0 rfl rfl 2 (by decide) (List.mem_cons_of_mem _ (List.mem_append_left _ (List.mem_of_getElem? (i := 0) rfl))) rfl rfl rfl rfl rfl (lt_ble rfl) rfl dX5_readSign_17 ?_
    refine j_iconst F dX5_readSign_20 ?_
    refine J.wsEq (ws2 := txC g a b ((T.length : Nat) : Int) ((rdS T t w : Nat) : Int) kd hp am f) (by unfold rdS; rw [if_pos (by omega)]; rfl) ?_
    exact ret _ () 0 0 _ _ dX5_readSign_21 (by decide) (by decide) (by rw [b2_t (by omega)])
  · refine j_iconst F dX5_readSign_8 ?_
    refine J.wsEq (ws2 := txC g a b ((T.length : Nat) : Int) ((rdS T t w : Nat) : Int) kd hp am f) (by unfold rdS; rw [if_neg (by omega)]) ?_
    exact ret _ () 0 0 _ _ dX5_readSign_9 (by decide) (by decide) (by rw [b2_f (by omega)])

set_option maxHeartbeats 4000000 in
set_option maxRecDepth 100000 in
theorem c_X5_readHeap {l : Launch} (hfl : l.flags = flags0) (D : va_G) (g : GT) (z : ZT) (a b t : Nat) (T : List Nat) (kd hp am : Int) (f : NF) (hT : txOK T) (hr : rep f T) (ht : t < 900) : CI l yX5_readHeap wsX5_readHeap 3 62 0 D g z [.ref a] (txC g a b ((T.length : Nat) : Int) (t : Int) kd hp am f) (fun (r9 : Int32) (u9 : Unit) => r9 = iI (rdH T t).1) (fun (u9 : Unit) => txC g a b ((T.length : Nat) : Int) (((rdH T t).2 : Nat) : Int) kd hp am f) 0 0 := by
  refine CI_of hfl (own := RX5) ⟨2, 0, 0, 41⟩ 3 62 0 (by decide +kernel) rfl rfl ⟨by decide, by decide, by decide +kernel⟩ ⟨by decide, by decide⟩ (le_ble rfl) (fun _ _ _ => rfl) ?_
  intro p e s m below meth c A Q F ret
  change J p l e _ s m _ below meth c A D _ Q 0 0 (txC g a b ((T.length : Nat) : Int) (t : Int) kd hp am f) [(0, .ref a)] [] 0
  refine j_aload_n F dX5_readHeap_0 rfl 0 rfl ?_
  refine j_callV_I F (As := []) (wr := []) (st := []) (c_X5_signHere hfl D g z a b t T kd hp am f hT hr (by omega)) (idx := 41) (C := RX5) gX5_readHeap_X5_signHere rfl rfl [0, 1] [] rfl rfl (by decide) (by decide) (by decide) (ci := 5) (q0 := 0) rfl rfl (by decide) (by decide) (le_ble rfl) ⟨by decide, by decide⟩ dX5_readHeap_1 ?_
  rintro r9 u9 rfl
  refine J.wsEq (ws2 := txC g a b ((T.length : Nat) : Int) (t : Int) kd hp am f) rfl ?_
  refine j_bipush F dX5_readHeap_4 (by decide) ?_
  refine j_isub F dX5_readHeap_6 ?_
  refine j_istore_n F (lv' := [(1, .int (iI ((((sgT T t) : Nat) : Int) - 48))), (0, .ref a)]) dX5_readHeap_7 rfl (by decide) rfl ?_
  refine j_iload_n F dX5_readHeap_8 rfl 0 rfl ?_
  refine j_if_lt F (tgt := 18) dX5_readHeap_9 (by decide) (by have := sgT_lt hT t; unfold rg; omega) (fun c9 => ?_) (fun c9 => ?_)
  · refine j_iconst F dX5_readHeap_18 ?_
    refine J.wsEq (ws2 := txC g a b ((T.length : Nat) : Int) (((rdH T t).2 : Nat) : Int) kd hp am f) (by unfold rdH; rw [if_pos (by omega)]) ?_
    exact ret _ () 0 0 _ _ dX5_readHeap_19 (by decide) (by decide) (by unfold rdH; rw [if_pos (by omega)])
  · refine j_iload_n F dX5_readHeap_12 rfl 0 rfl ?_
    refine j_bipush F dX5_readHeap_13 (by decide) ?_
    refine j_icmp_le F (tgt := 20) dX5_readHeap_15 (by decide) ⟨(by have := sgT_lt hT t; unfold rg; omega), (by unfold rg; omega)⟩ (fun c15 => ?_) (fun c15 => ?_)
    · refine j_aload_n F dX5_readHeap_20 rfl 1 rfl ?_
      refine j_dup F dX5_readHeap_21 rfl ?_
      refine j_getf F (ref := "CairnGame$Text") (C := RX5) (T := TX5) (N := 6) (ci := 5) (index := 19) (v := .int (iI (t : Int))) (fun w h => (List.mem_cons_of_mem _ (List.mem_append_right _ h))) 0 rfl rfl 2 (by decide) (List.mem_cons_of_mem _ (List.mem_append_left _ (List.mem_of_getElem? (i := 0) rfl))) rfl rfl dX5_readHeap_22 ?_
      refine j_iconst F dX5_readHeap_25 ?_
      refine j_iadd F dX5_readHeap_26 ?_
      refine j_putf F (ref := "CairnGame$Text") (C := RX5) (T := TX5) (N := 6) (ci := 5) (index := 19) (ty := .int) (ws' := txC g a b ((T.length : Nat) : Int) ((t : Int) + 1) kd hp am f) (fun w h => (List.mem_cons_of_mem _ (List.mem_append_right _ h))) tyX5 tyX5_ok nmX5 0 rfl rfl 2 (by decide) (List.mem_cons_of_mem _ (List.mem_append_left _ (List.mem_of_getElem? (i := 0) rfl))) rfl rfl rfl rfl rfl (lt_ble rfl) rfl dX5_readHeap_27 ?_
      refine j_iload_n F dX5_readHeap_30 rfl 0 rfl ?_
      refine j_iconst F dX5_readHeap_31 ?_
      refine j_icmp_eq F (tgt := 37) dX5_readHeap_32 (by decide) ⟨(by have := sgT_lt hT t; unfold rg; omega), (by unfold rg; omega)⟩ (fun c32 => ?_) (fun c32 => ?_)
      · refine j_aload_n F dX5_readHeap_37 rfl 1 rfl ?_
        refine j_bipush F dX5_readHeap_38 (by decide) ?_
        refine j_callV_I F (As := [.int (iI 48)]) (wr := []) (st := []) (c_X5_readSign hfl D g z a b (t + 1) T kd hp am f 48 hT hr (by omega) (by omega)) (idx := 35) (C := RX5) gX5_readHeap_X5_readSign rfl rfl [0, 1] [] rfl rfl (by decide) (by decide) (by decide) (ci := 5) (q0 := 0) rfl rfl (by decide) (by decide) (le_ble rfl) ⟨by decide, by decide⟩ dX5_readHeap_40 ?_
        rintro r9 u9 rfl
        refine J.wsEq (ws2 := txC g a b ((T.length : Nat) : Int) ((rdS T (t + 1) 48 : Nat) : Int) kd hp am f) rfl ?_
        refine j_ifb_eq F (tgt := 51) dX5_readHeap_43 (by decide)  (fun c43 => ?_) (fun c43 => ?_)
        · have e4 : rdS T (t + 1) 48 = t + 1 := by unfold rdS; rw [if_neg c43]
          refine J.wsEq (ws2 := txC g a b ((T.length : Nat) : Int) ((t + 1 : Nat) : Int) kd hp am f) (by rw [e4]) ?_
          refine j_aload_n F dX5_readHeap_51 rfl 1 rfl ?_
          refine j_bipush F dX5_readHeap_52 (by decide) ?_
          refine j_callV_I F (As := [.int (iI 49)]) (wr := []) (st := []) (c_X5_readSign hfl D g z a b (t + 1) T kd hp am f 49 hT hr (by omega) (by omega)) (idx := 35) (C := RX5) gX5_readHeap_X5_readSign rfl rfl [0, 1] [] rfl rfl (by decide) (by decide) (by decide) (ci := 5) (q0 := 0) rfl rfl (by decide) (by decide) (le_ble rfl) ⟨by decide, by decide⟩ dX5_readHeap_54 ?_
          rintro r9 u9 rfl
          refine J.wsEq (ws2 := txC g a b ((T.length : Nat) : Int) ((rdS T (t + 1) 49 : Nat) : Int) kd hp am f) rfl ?_
          refine j_ifb_eq F (tgt := 65) dX5_readHeap_57 (by decide)  (fun c57 => ?_) (fun c57 => ?_)
          · refine j_iconst F dX5_readHeap_65 ?_
            refine J.wsEq (ws2 := txC g a b ((T.length : Nat) : Int) (((rdH T t).2 : Nat) : Int) kd hp am f) (by unfold rdH; rw [if_neg (by omega), if_pos (by omega), if_neg c43, if_neg c57]; unfold rdS; rw [if_neg c57]) ?_
            exact ret _ () 0 0 _ _ dX5_readHeap_66 (by decide) (by decide) (by unfold rdH; rw [if_neg (by omega), if_pos (by omega), if_neg c43, if_neg c57])
          · refine j_bipush F dX5_readHeap_60 (by decide) ?_
            refine j_goto F (tgt := 66) dX5_readHeap_62 (by decide) ?_
            refine J.wsEq (ws2 := txC g a b ((T.length : Nat) : Int) (((rdH T t).2 : Nat) : Int) kd hp am f) (by unfold rdH; rw [if_neg (by omega), if_pos (by omega), if_neg c43, if_pos c57]; unfold rdS; rw [if_pos c57]) ?_
            exact ret _ () 0 0 _ _ dX5_readHeap_66 (by decide) (by decide) (by unfold rdH; rw [if_neg (by omega), if_pos (by omega), if_neg c43, if_pos c57])
        · have e4 : rdS T (t + 1) 48 = t + 2 := by unfold rdS; rw [if_pos c43]
          refine j_bipush F dX5_readHeap_46 (by decide) ?_
          refine j_goto F (tgt := 66) dX5_readHeap_48 (by decide) ?_
          refine J.wsEq (ws2 := txC g a b ((T.length : Nat) : Int) (((rdH T t).2 : Nat) : Int) kd hp am f) (by unfold rdH; rw [if_neg (by omega), if_pos (by omega), if_pos c43, e4]) ?_
          exact ret _ () 0 0 _ _ dX5_readHeap_66 (by decide) (by decide) (by unfold rdH; rw [if_neg (by omega), if_pos (by omega), if_pos c43])
      · refine j_iload_n F dX5_readHeap_35 rfl 0 rfl ?_
        refine J.wsEq (ws2 := txC g a b ((T.length : Nat) : Int) (((rdH T t).2 : Nat) : Int) kd hp am f) (by unfold rdH; rw [if_neg (by omega), if_neg (by omega)]; rfl) ?_
        exact ret _ () 0 0 _ _ dX5_readHeap_36 (by decide) (by decide) (by unfold rdH; rw [if_neg (by omega), if_neg (by omega)])
    · refine j_iconst F dX5_readHeap_18 ?_
      refine J.wsEq (ws2 := txC g a b ((T.length : Nat) : Int) (((rdH T t).2 : Nat) : Int) kd hp am f) (by unfold rdH; rw [if_pos (by omega)]) ?_
      exact ret _ () 0 0 _ _ dX5_readHeap_19 (by decide) (by decide) (by unfold rdH; rw [if_pos (by omega)])

set_option maxHeartbeats 4000000 in
set_option maxRecDepth 100000 in
theorem c_X5_readAmount {l : Launch} (hfl : l.flags = flags0) (D : va_G) (g : GT) (z : ZT) (a b t : Nat) (T : List Nat) (kd hp am : Int) (f : NF) (hT : txOK T) (hr : rep f T) (ht : t < 900) (hkd : 0 ≤ kd ∧ kd ≤ 2) : CI l yX5_readAmount wsX5_readAmount 4 83 0 D g z [.ref a] (txC g a b ((T.length : Nat) : Int) (t : Int) kd hp am f) (fun (r9 : Int32) (u9 : Unit) => r9 = iI (rdA T t kd).1) (fun (u9 : Unit) => txC g a b ((T.length : Nat) : Int) (((rdA T t kd).2 : Nat) : Int) kd hp am f) 0 0 := by
  refine CI_of hfl (own := RX5) ⟨3, 0, 0, 62⟩ 4 83 0 (by decide +kernel) rfl rfl ⟨by decide, by decide, by decide +kernel⟩ ⟨by decide, by decide⟩ (le_ble rfl) (fun _ _ _ => rfl) ?_
  intro p e s m below meth c A Q F ret
  change J p l e _ s m _ below meth c A D _ Q 0 0 (txC g a b ((T.length : Nat) : Int) (t : Int) kd hp am f) [(0, .ref a)] [] 0
  refine j_aload_n F dX5_readAmount_0 rfl 0 rfl ?_
  refine j_getf F (ref := "CairnGame$Text") (C := RX5) (T := TX5) (N := 6) (ci := 5) (index := 22) (v := .int (iI kd)) (fun w h => (List.mem_cons_of_mem _ (List.mem_append_right _ h))) 0 rfl rfl 3 (by decide) (List.mem_cons_of_mem _ (List.mem_append_left _ (List.mem_of_getElem? (i := 0) rfl))) rfl rfl dX5_readAmount_1 ?_
  refine j_iconst F dX5_readAmount_4 ?_
  refine j_icmp_ne F (tgt := 13) dX5_readAmount_5 (by decide) ⟨(by unfold rg; omega), (by unfold rg; omega)⟩ (fun c5 => ?_) (fun c5 => ?_)
  · refine j_aload_n F dX5_readAmount_13 rfl 0 rfl ?_
    refine j_callV_I F (As := []) (wr := []) (st := []) (c_X5_signHere hfl D g z a b t T kd hp am f hT hr (by omega)) (idx := 41) (C := RX5) gX5_readAmount_X5_signHere rfl rfl [0, 1] [] rfl rfl (by decide) (by decide) (by decide) (ci := 5) (q0 := 0) rfl rfl (by decide) (by decide) (le_ble rfl) ⟨by decide, by decide⟩ dX5_readAmount_14 ?_
    rintro r9 u9 rfl
    refine J.wsEq (ws2 := txC g a b ((T.length : Nat) : Int) (t : Int) kd hp am f) rfl ?_
    refine j_bipush F dX5_readAmount_17 (by decide) ?_
    refine j_isub F dX5_readAmount_19 ?_
    refine j_istore_n F (lv' := [(1, .int (iI ((((sgT T t) : Nat) : Int) - 48))), (0, .ref a)]) dX5_readAmount_20 rfl (by decide) rfl ?_
    refine j_iload_n F dX5_readAmount_21 rfl 0 rfl ?_
    refine j_iconst F dX5_readAmount_22 ?_
    refine j_icmp_lt F (tgt := 43) dX5_readAmount_23 (by decide) ⟨(by have := sgT_lt hT t; unfold rg; omega), (by unfold rg; omega)⟩ (fun c23 => ?_) (fun c23 => ?_)
    · refine j_iconst F dX5_readAmount_43 ?_
      refine J.wsEq (ws2 := txC g a b ((T.length : Nat) : Int) (((rdA T t kd).2 : Nat) : Int) kd hp am f) (by unfold rdA; rw [if_neg c5, if_pos (by omega)]) ?_
      exact ret _ () 0 0 _ _ dX5_readAmount_44 (by decide) (by decide) (by unfold rdA; rw [if_neg c5, if_pos (by omega)])
    · refine j_iload_n F dX5_readAmount_26 rfl 0 rfl ?_
      refine j_aload_n F dX5_readAmount_27 rfl 1 rfl ?_
      refine j_getf F (ref := "CairnGame$Text") (C := RX5) (T := TX5) (N := 6) (ci := 5) (index := 22) (v := .int (iI kd)) (fun w h => (List.mem_cons_of_mem _ (List.mem_append_right _ h))) 0 rfl rfl 3 (by decide) (List.mem_cons_of_mem _ (List.mem_append_left _ (List.mem_of_getElem? (i := 0) rfl))) rfl rfl dX5_readAmount_28 ?_
      refine j_if_ne F (tgt := 38) dX5_readAmount_31 (by decide) (by unfold rg; omega) (fun c31 => ?_) (fun c31 => ?_)
      · have e5 : amL kd = 54 := by unfold amL; rw [if_neg c31]
        refine j_bipush F dX5_readAmount_38 (by decide) ?_
        refine j_icmp_le F (tgt := 45) dX5_readAmount_40 (by decide) ⟨(by have := sgT_lt hT t; unfold rg; omega), (by unfold rg; omega)⟩ (fun c40 => ?_) (fun c40 => ?_)
        · refine j_aload_n F dX5_readAmount_45 rfl 1 rfl ?_
          refine j_dup F dX5_readAmount_46 rfl ?_
          refine j_getf F (ref := "CairnGame$Text") (C := RX5) (T := TX5) (N := 6) (ci := 5) (index := 19) (v := .int (iI (t : Int))) (fun w h => (List.mem_cons_of_mem _ (List.mem_append_right _ h))) 0 rfl rfl 2 (by decide) (List.mem_cons_of_mem _ (List.mem_append_left _ (List.mem_of_getElem? (i := 1) rfl))) rfl rfl dX5_readAmount_47 ?_
          refine j_iconst F dX5_readAmount_50 ?_
          refine j_iadd F dX5_readAmount_51 ?_
          refine j_putf F (ref := "CairnGame$Text") (C := RX5) (T := TX5) (N := 6) (ci := 5) (index := 19) (ty := .int) (ws' := txC g a b ((T.length : Nat) : Int) ((t : Int) + 1) kd hp am f) (fun w h => (List.mem_cons_of_mem _ (List.mem_append_right _ h))) tyX5 tyX5_ok nmX5 0 rfl rfl 2 (by decide) (List.mem_cons_of_mem _ (List.mem_append_left _ (List.mem_of_getElem? (i := 1) rfl))) rfl rfl rfl rfl rfl (lt_ble rfl) rfl dX5_readAmount_52 ?_
          refine j_iload_n F dX5_readAmount_55 rfl 0 rfl ?_
          refine J.wsEq (ws2 := txC g a b ((T.length : Nat) : Int) (((rdA T t kd).2 : Nat) : Int) kd hp am f) (by unfold rdA; rw [if_neg c5, if_neg (by omega)]; rfl) ?_
          exact ret _ () 0 0 _ _ dX5_readAmount_56 (by decide) (by decide) (by unfold rdA; rw [if_neg c5, if_neg (by omega)])
        · refine j_iconst F dX5_readAmount_43 ?_
          refine J.wsEq (ws2 := txC g a b ((T.length : Nat) : Int) (((rdA T t kd).2 : Nat) : Int) kd hp am f) (by unfold rdA; rw [if_neg c5, if_pos (by omega)]) ?_
          exact ret _ () 0 0 _ _ dX5_readAmount_44 (by decide) (by decide) (by unfold rdA; rw [if_neg c5, if_pos (by omega)])
      · have e5 : amL kd = 53 := by unfold amL; rw [if_pos c31]
        refine j_iconst F dX5_readAmount_34 ?_
        refine j_goto F (tgt := 40) dX5_readAmount_35 (by decide) ?_
        refine j_icmp_le F (tgt := 45) dX5_readAmount_40 (by decide) ⟨(by have := sgT_lt hT t; unfold rg; omega), (by unfold rg; omega)⟩ (fun c40 => ?_) (fun c40 => ?_)
        · refine j_aload_n F dX5_readAmount_45 rfl 1 rfl ?_
          refine j_dup F dX5_readAmount_46 rfl ?_
          refine j_getf F (ref := "CairnGame$Text") (C := RX5) (T := TX5) (N := 6) (ci := 5) (index := 19) (v := .int (iI (t : Int))) (fun w h => (List.mem_cons_of_mem _ (List.mem_append_right _ h))) 0 rfl rfl 2 (by decide) (List.mem_cons_of_mem _ (List.mem_append_left _ (List.mem_of_getElem? (i := 1) rfl))) rfl rfl dX5_readAmount_47 ?_
          refine j_iconst F dX5_readAmount_50 ?_
          refine j_iadd F dX5_readAmount_51 ?_
          refine j_putf F (ref := "CairnGame$Text") (C := RX5) (T := TX5) (N := 6) (ci := 5) (index := 19) (ty := .int) (ws' := txC g a b ((T.length : Nat) : Int) ((t : Int) + 1) kd hp am f) (fun w h => (List.mem_cons_of_mem _ (List.mem_append_right _ h))) tyX5 tyX5_ok nmX5 0 rfl rfl 2 (by decide) (List.mem_cons_of_mem _ (List.mem_append_left _ (List.mem_of_getElem? (i := 1) rfl))) rfl rfl rfl rfl rfl (lt_ble rfl) rfl dX5_readAmount_52 ?_
          refine j_iload_n F dX5_readAmount_55 rfl 0 rfl ?_
          refine J.wsEq (ws2 := txC g a b ((T.length : Nat) : Int) (((rdA T t kd).2 : Nat) : Int) kd hp am f) (by unfold rdA; rw [if_neg c5, if_neg (by omega)]; rfl) ?_
          exact ret _ () 0 0 _ _ dX5_readAmount_56 (by decide) (by decide) (by unfold rdA; rw [if_neg c5, if_neg (by omega)])
        · refine j_iconst F dX5_readAmount_43 ?_
          refine J.wsEq (ws2 := txC g a b ((T.length : Nat) : Int) (((rdA T t kd).2 : Nat) : Int) kd hp am f) (by unfold rdA; rw [if_neg c5, if_pos (by omega)]) ?_
          exact ret _ () 0 0 _ _ dX5_readAmount_44 (by decide) (by decide) (by unfold rdA; rw [if_neg c5, if_pos (by omega)])
  · refine j_aload_n F dX5_readAmount_8 rfl 0 rfl ?_
    refine j_callV_I F (As := []) (wr := []) (st := []) (c_X5_readHeap hfl D g z a b t T kd hp am f hT hr (by omega)) (idx := 51) (C := RX5) gX5_readAmount_X5_readHeap rfl rfl [0, 1] [] rfl rfl (by decide) (by decide) (by decide) (ci := 5) (q0 := 0) rfl rfl (by decide) (by decide) (le_ble rfl) ⟨by decide, by decide⟩ dX5_readAmount_9 ?_
    rintro r9 u9 rfl
    refine J.wsEq (ws2 := txC g a b ((T.length : Nat) : Int) (((rdH T t).2 : Nat) : Int) kd hp am f) rfl ?_
    refine J.wsEq (ws2 := txC g a b ((T.length : Nat) : Int) (((rdA T t kd).2 : Nat) : Int) kd hp am f) (by unfold rdA; rw [if_pos c5]) ?_
    exact ret _ () 0 0 _ _ dX5_readAmount_12 (by decide) (by decide) (by unfold rdA; rw [if_pos c5])

set_option maxHeartbeats 4000000 in
set_option maxRecDepth 100000 in
theorem c_X5_readItem {l : Launch} (hfl : l.flags = flags0) (D : va_G) (g : GT) (z : ZT) (a b t : Nat) (T : List Nat) (kd hp am : Int) (f : NF) (hT : txOK T) (hr : rep f T) (ht : t < 800) : CI l yX5_readItem wsX5_readItem 5 126 0 D g z [.ref a] (txC g a b ((T.length : Nat) : Int) (t : Int) kd hp am f) (fun (r9 : Int32) (u9 : Unit) => r9 = iI (rdI T t hp am).1) (fun (u9 : Unit) => txC g a b ((T.length : Nat) : Int) (((rdI T t hp am).2.1 : Nat) : Int) ((rdI T t hp am).2.2.1) ((rdI T t hp am).2.2.2.1) ((rdI T t hp am).2.2.2.2) f) 0 0 := by
  refine CI_of hfl (own := RX5) ⟨4, 0, 0, 106⟩ 5 126 0 (by decide +kernel) rfl rfl ⟨by decide, by decide, by decide +kernel⟩ ⟨by decide, by decide⟩ (le_ble rfl) (fun _ _ h => nar_01 h (rdI_01 _ _ _ _)) ?_
  intro p e s m below meth c A Q F ret
  change J p l e _ s m _ below meth c A D _ Q 0 0 (txC g a b ((T.length : Nat) : Int) (t : Int) kd hp am f) [(0, .ref a)] [] 0
  have hkr := kindT_r ((sgT T t : Nat) : Int)
  refine j_aload_n F dX5_readItem_0 rfl 0 rfl ?_
  refine j_ldcS F F.S.2.2.2.2.1 dX5_readItem_1 ?_
  refine j_aload_n F dX5_readItem_3 rfl 0 rfl ?_
  refine j_callV_I F (As := []) (wr := []) (st := [.ref (z.2.1 0), .ref a]) (c_X5_signHere hfl D g z a b t T kd hp am f hT hr (by omega)) (idx := 41) (C := RX5) gX5_readItem_X5_signHere rfl rfl [0, 1] [] rfl rfl (by decide) (by decide) (by decide) (ci := 5) (q0 := 0) rfl rfl (by decide) (by decide) (le_ble rfl) ⟨by decide, by decide⟩ dX5_readItem_4 ?_
  rintro r9 u9 rfl
  refine J.wsEq (ws2 := txC g a b ((T.length : Nat) : Int) (t : Int) kd hp am f) rfl ?_
  refine j_callK_I F (i := 0) (by decide) (As := [.int (iI (((sgT T t) : Nat) : Int))]) (st := [.ref a]) (c_J0_indexOf_0f7a4 hfl D g z ((sgT T t : Nat) : Int) (by have := sgT_lt hT t; omega)) (idx := 45) gX5_readItem_J0_indexOf_0f7a4 rfl rfl (by decide) (by decide) (le_ble rfl) ⟨by decide, by decide⟩ dX5_readItem_7 ?_
  rintro r9 u9 rfl
  refine j_putf F (ref := "CairnGame$Text") (C := RX5) (T := TX5) (N := 6) (ci := 5) (index := 22) (ty := .int) (ws' := txC g a b ((T.length : Nat) : Int) (t : Int) (kindT ((sgT T t : Nat) : Int)) hp am f) (fun w h => (List.mem_cons_of_mem _ (List.mem_append_right _ h))) tyX5 tyX5_ok nmX5 0 rfl rfl 3 (by decide) (List.mem_cons_of_mem _ (List.mem_append_left _ (List.mem_append_left _ (List.mem_of_getElem? (l := wsX5_readItem_r1) (i := 0) rfl)))) rfl rfl rfl rfl rfl (lt_ble rfl) rfl dX5_readItem_10 ?_
  refine j_aload_n F dX5_readItem_13 rfl 0 rfl ?_
  refine j_getf F (ref := "CairnGame$Text") (C := RX5) (T := TX5) (N := 6) (ci := 5) (index := 22) (v := .int (iI (kindT ((sgT T t : Nat) : Int)))) (fun w h => (List.mem_cons_of_mem _ (List.mem_append_right _ h))) 0 rfl rfl 3 (by decide) (List.mem_cons_of_mem _ (List.mem_append_left _ (List.mem_append_left _ (List.mem_of_getElem? (l := wsX5_readItem_r1) (i := 0) rfl)))) rfl rfl dX5_readItem_14 ?_
  refine j_iconst F dX5_readItem_17 ?_
  refine j_icmp_ne F (tgt := 23) dX5_readItem_18 (by decide) ⟨(by unfold rg; omega), (by unfold rg; omega)⟩ (fun c18 => ?_) (fun c18 => ?_)
  · have hk1 := c18
    have hk2 : 0 ≤ (kindT ((sgT T t : Nat) : Int)) ∧ (kindT ((sgT T t : Nat) : Int)) ≤ 2 := by omega
    have hhb := rdH_b T (t + 1)
    obtain ⟨kn, ekn⟩ : ∃ kn : Nat, (kindT ((sgT T t : Nat) : Int)) = (kn : Int) := ⟨((kindT ((sgT T t : Nat) : Int))).toNat, by omega⟩
    have hab := rdA_b T ((rdH T (t + 1)).2 + 1) (kindT ((sgT T t : Nat) : Int))
    refine j_aload_n F dX5_readItem_23 rfl 0 rfl ?_
    refine j_dup F dX5_readItem_24 rfl ?_
    refine j_getf F (ref := "CairnGame$Text") (C := RX5) (T := TX5) (N := 6) (ci := 5) (index := 19) (v := .int (iI (t : Int))) (fun w h => (List.mem_cons_of_mem _ (List.mem_append_right _ h))) 0 rfl rfl 2 (by decide) (List.mem_cons_of_mem _ (List.mem_append_left _ (List.mem_append_left _ (List.mem_of_getElem? (l := wsX5_readItem_r1) (i := 1) rfl)))) rfl rfl dX5_readItem_25 ?_
    refine j_iconst F dX5_readItem_28 ?_
    refine j_iadd F dX5_readItem_29 ?_
    refine j_putf F (ref := "CairnGame$Text") (C := RX5) (T := TX5) (N := 6) (ci := 5) (index := 19) (ty := .int) (ws' := txC g a b ((T.length : Nat) : Int) ((t : Int) + 1) (kindT ((sgT T t : Nat) : Int)) hp am f) (fun w h => (List.mem_cons_of_mem _ (List.mem_append_right _ h))) tyX5 tyX5_ok nmX5 0 rfl rfl 2 (by decide) (List.mem_cons_of_mem _ (List.mem_append_left _ (List.mem_append_left _ (List.mem_of_getElem? (l := wsX5_readItem_r1) (i := 1) rfl)))) rfl rfl rfl rfl rfl (lt_ble rfl) rfl dX5_readItem_30 ?_
    refine J.wsEq (ws2 := txC g a b ((T.length : Nat) : Int) ((t + 1 : Nat) : Int) (kindT ((sgT T t : Nat) : Int)) hp am f) (rfl) ?_
    refine j_aload_n F dX5_readItem_33 rfl 0 rfl ?_
    refine j_aload_n F dX5_readItem_34 rfl 0 rfl ?_
    refine j_callV_I F (As := []) (wr := []) (st := [.ref a]) (c_X5_readHeap hfl D g z a b (t + 1) T (kindT ((sgT T t : Nat) : Int)) hp am f hT hr (by omega)) (idx := 51) (C := RX5) gX5_readItem_X5_readHeap rfl rfl [0, 1] [] rfl rfl (by decide) (by decide) (by decide) (ci := 5) (q0 := 0) rfl rfl (by decide) (by decide) (le_ble rfl) ⟨by decide, by decide⟩ dX5_readItem_35 ?_
    rintro r9 u9 rfl
    refine J.wsEq (ws2 := txC g a b ((T.length : Nat) : Int) (((rdH T (t + 1)).2 : Nat) : Int) (kindT ((sgT T t : Nat) : Int)) hp am f) rfl ?_
    refine j_putf F (ref := "CairnGame$Text") (C := RX5) (T := TX5) (N := 6) (ci := 5) (index := 25) (ty := .int) (ws' := txC g a b ((T.length : Nat) : Int) (((rdH T (t + 1)).2 : Nat) : Int) (kindT ((sgT T t : Nat) : Int)) ((rdH T (t + 1)).1) am f) (fun w h => (List.mem_cons_of_mem _ (List.mem_append_right _ h))) tyX5 tyX5_ok nmX5 0 rfl rfl 4 (by decide) (List.mem_cons_of_mem _ (List.mem_append_left _ (List.mem_append_left _ (List.mem_of_getElem? (l := wsX5_readItem_r1) (i := 2) rfl)))) rfl rfl rfl rfl rfl (lt_ble rfl) rfl dX5_readItem_38 ?_
    refine j_aload_n F dX5_readItem_41 rfl 0 rfl ?_
    refine j_getf F (ref := "CairnGame$Text") (C := RX5) (T := TX5) (N := 6) (ci := 5) (index := 25) (v := .int (iI ((rdH T (t + 1)).1))) (fun w h => (List.mem_cons_of_mem _ (List.mem_append_right _ h))) 0 rfl rfl 4 (by decide) (List.mem_cons_of_mem _ (List.mem_append_left _ (List.mem_append_left _ (List.mem_of_getElem? (l := wsX5_readItem_r1) (i := 2) rfl)))) rfl rfl dX5_readItem_42 ?_
    refine j_iconst F dX5_readItem_45 ?_
    refine j_icmp_eq F (tgt := 65) dX5_readItem_46 (by decide) ⟨(by unfold rg; omega), (by unfold rg; omega)⟩ (fun c46 => ?_) (fun c46 => ?_)
    · refine j_iconst F dX5_readItem_65 ?_
      refine J.wsEq (ws2 := txC g a b ((T.length : Nat) : Int) (((rdI T t hp am).2.1 : Nat) : Int) ((rdI T t hp am).2.2.1) ((rdI T t hp am).2.2.2.1) ((rdI T t hp am).2.2.2.2) f) (by unfold rdI; rw [if_neg hk1, if_pos c46]; rw [c46]) ?_
      exact ret _ () 0 0 _ _ dX5_readItem_66 (by decide) (by decide) (by unfold rdI; rw [if_neg hk1, if_pos c46])
    · have hh1 := c46
      refine j_aload_n F dX5_readItem_49 rfl 0 rfl ?_
      refine j_ldcS F F.S.2.2.2.2.2.1 dX5_readItem_50 ?_
      refine j_aload_n F dX5_readItem_52 rfl 0 rfl ?_
      refine j_getf F (ref := "CairnGame$Text") (C := RX5) (T := TX5) (N := 6) (ci := 5) (index := 22) (v := .int (iI (kindT ((sgT T t : Nat) : Int)))) (fun w h => (List.mem_cons_of_mem _ (List.mem_append_right _ h))) 0 rfl rfl 3 (by decide) (List.mem_cons_of_mem _ (List.mem_append_left _ (List.mem_append_left _ (List.mem_of_getElem? (l := wsX5_readItem_r1) (i := 0) rfl)))) rfl rfl dX5_readItem_53 ?_
      refine J.top (congrArg iI (show (kindT ((sgT T t : Nat) : Int)) = (kn : Int) from ekn)) ?_
      refine j_callK_I F (i := 1) (by decide) (As := [.int (iI (kn : Int))]) (st := [.ref a]) (c_J0_charAt_5068e hfl D g z kn (by omega)) (idx := 57) gX5_readItem_J0_charAt_5068e rfl rfl (by decide) (by decide) (le_ble rfl) ⟨by decide, by decide⟩ dX5_readItem_56 ?_
      rintro r9 u9 h9
      subst h9
      rw [lnk_eq kn (by omega), ← ekn]
      refine j_callV_I F (As := [.int (iI (((lnkT (kindT ((sgT T t : Nat) : Int))) : Nat) : Int))]) (wr := []) (st := []) (c_X5_readSign hfl D g z a b (rdH T (t + 1)).2 T (kindT ((sgT T t : Nat) : Int)) (rdH T (t + 1)).1 am f (lnkT (kindT ((sgT T t : Nat) : Int))) hT hr (by omega) (by unfold lnkT; split <;> (try split) <;> omega)) (idx := 35) (C := RX5) gX5_readItem_X5_readSign rfl rfl [0, 1] [] rfl rfl (by decide) (by decide) (by decide) (ci := 5) (q0 := 0) rfl rfl (by decide) (by decide) (le_ble rfl) ⟨by decide, by decide⟩ dX5_readItem_59 ?_
      rintro r9 u9 rfl
      refine J.wsEq (ws2 := txC g a b ((T.length : Nat) : Int) ((rdS T (rdH T (t + 1)).2 (lnkT (kindT ((sgT T t : Nat) : Int))) : Nat) : Int) (kindT ((sgT T t : Nat) : Int)) ((rdH T (t + 1)).1) am f) rfl ?_
      refine j_ifb_ne F (tgt := 67) dX5_readItem_62 (by decide)  (fun c62 => ?_) (fun c62 => ?_)
      · have hs1 := c62
        have e6 : rdS T (rdH T (t + 1)).2 (lnkT (kindT ((sgT T t : Nat) : Int))) = (rdH T (t + 1)).2 + 1 := by unfold rdS; rw [if_pos c62]
        refine J.wsEq (ws2 := txC g a b ((T.length : Nat) : Int) (((rdH T (t + 1)).2 + 1 : Nat) : Int) (kindT ((sgT T t : Nat) : Int)) ((rdH T (t + 1)).1) am f) (by rw [e6]) ?_
        refine j_aload_n F dX5_readItem_67 rfl 0 rfl ?_
        refine j_aload_n F dX5_readItem_68 rfl 0 rfl ?_
        refine j_callV_I F (As := []) (wr := []) (st := [.ref a]) (c_X5_readAmount hfl D g z a b ((rdH T (t + 1)).2 + 1) T (kindT ((sgT T t : Nat) : Int)) (rdH T (t + 1)).1 am f hT hr (by omega) hk2) (idx := 61) (C := RX5) gX5_readItem_X5_readAmount rfl rfl [0, 1] [] rfl rfl (by decide) (by decide) (by decide) (ci := 5) (q0 := 0) rfl rfl (by decide) (by decide) (le_ble rfl) ⟨by decide, by decide⟩ dX5_readItem_69 ?_
        rintro r9 u9 rfl
        refine J.wsEq (ws2 := txC g a b ((T.length : Nat) : Int) (((rdA T ((rdH T (t + 1)).2 + 1) (kindT ((sgT T t : Nat) : Int))).2 : Nat) : Int) (kindT ((sgT T t : Nat) : Int)) ((rdH T (t + 1)).1) am f) rfl ?_
        refine j_putf F (ref := "CairnGame$Text") (C := RX5) (T := TX5) (N := 6) (ci := 5) (index := 28) (ty := .int) (ws' := txC g a b ((T.length : Nat) : Int) (((rdA T ((rdH T (t + 1)).2 + 1) (kindT ((sgT T t : Nat) : Int))).2 : Nat) : Int) (kindT ((sgT T t : Nat) : Int)) ((rdH T (t + 1)).1) ((rdA T ((rdH T (t + 1)).2 + 1) (kindT ((sgT T t : Nat) : Int))).1) f) (fun w h => (List.mem_cons_of_mem _ (List.mem_append_right _ h))) tyX5 tyX5_ok nmX5 0 rfl rfl 5 (by decide) (List.mem_cons_of_mem _ (List.mem_append_left _ (List.mem_append_left _ (List.mem_of_getElem? (l := wsX5_readItem_r1) (i := 3) rfl)))) rfl rfl rfl rfl rfl (lt_ble rfl) rfl dX5_readItem_72 ?_
        refine j_aload_n F dX5_readItem_75 rfl 0 rfl ?_
        refine j_getf F (ref := "CairnGame$Text") (C := RX5) (T := TX5) (N := 6) (ci := 5) (index := 28) (v := .int (iI ((rdA T ((rdH T (t + 1)).2 + 1) (kindT ((sgT T t : Nat) : Int))).1))) (fun w h => (List.mem_cons_of_mem _ (List.mem_append_right _ h))) 0 rfl rfl 5 (by decide) (List.mem_cons_of_mem _ (List.mem_append_left _ (List.mem_append_left _ (List.mem_of_getElem? (l := wsX5_readItem_r1) (i := 3) rfl)))) rfl rfl dX5_readItem_76 ?_
        refine j_iconst F dX5_readItem_79 ?_
        refine j_icmp_eq F (tgt := 87) dX5_readItem_80 (by decide) ⟨(by unfold rg; omega), (by unfold rg; omega)⟩ (fun c80 => ?_) (fun c80 => ?_)
        · refine j_iconst F dX5_readItem_87 ?_
          refine J.wsEq (ws2 := txC g a b ((T.length : Nat) : Int) (((rdI T t hp am).2.1 : Nat) : Int) ((rdI T t hp am).2.2.1) ((rdI T t hp am).2.2.2.1) ((rdI T t hp am).2.2.2.2) f) (by unfold rdI; rw [if_neg hk1, if_neg hh1, if_neg (fun z9 => z9 hs1)]) ?_
          exact ret _ () 0 0 _ _ dX5_readItem_88 (by decide) (by decide) (by unfold rdI; rw [if_neg hk1, if_neg hh1, if_neg (fun z9 => z9 hs1)]; exact congrArg iI (if_pos c80).symm)
        · refine j_iconst F dX5_readItem_83 ?_
          refine j_goto F (tgt := 88) dX5_readItem_84 (by decide) ?_
          refine J.wsEq (ws2 := txC g a b ((T.length : Nat) : Int) (((rdI T t hp am).2.1 : Nat) : Int) ((rdI T t hp am).2.2.1) ((rdI T t hp am).2.2.2.1) ((rdI T t hp am).2.2.2.2) f) (by unfold rdI; rw [if_neg hk1, if_neg hh1, if_neg (fun z9 => z9 hs1)]) ?_
          exact ret _ () 0 0 _ _ dX5_readItem_88 (by decide) (by decide) (by unfold rdI; rw [if_neg hk1, if_neg hh1, if_neg (fun z9 => z9 hs1)]; exact congrArg iI (if_neg c80).symm)
      · refine j_iconst F dX5_readItem_65 ?_
        have e6 : rdS T (rdH T (t + 1)).2 (lnkT (kindT ((sgT T t : Nat) : Int))) = (rdH T (t + 1)).2 := by unfold rdS; rw [if_neg c62]
        refine J.wsEq (ws2 := txC g a b ((T.length : Nat) : Int) (((rdI T t hp am).2.1 : Nat) : Int) ((rdI T t hp am).2.2.1) ((rdI T t hp am).2.2.2.1) ((rdI T t hp am).2.2.2.2) f) (by unfold rdI; rw [if_neg hk1, if_neg hh1, if_pos c62, e6]) ?_
        exact ret _ () 0 0 _ _ dX5_readItem_66 (by decide) (by decide) (by unfold rdI; rw [if_neg hk1, if_neg hh1, if_pos c62])
  · refine j_iconst F dX5_readItem_21 ?_
    refine J.wsEq (ws2 := txC g a b ((T.length : Nat) : Int) (((rdI T t hp am).2.1 : Nat) : Int) ((rdI T t hp am).2.2.1) ((rdI T t hp am).2.2.2.1) ((rdI T t hp am).2.2.2.2) f) (by unfold rdI; rw [if_pos c18]; rw [c18]) ?_
    exact ret _ () 0 0 _ _ dX5_readItem_22 (by decide) (by decide) (by unfold rdI; rw [if_pos c18])

theorem er_go {T : List Nat} {j t : Nat} (h : erF T (60 - j) t = erT T) (hj : j < 60) : erT T = (if (rdI T t 0 0).1 = 0 then (((rdI T t 0 0).2.1 : Nat) : Int) else if T.length ≤ (rdI T t 0 0).2.1 then -1 else if sgT T (rdI T t 0 0).2.1 = 44 then erF T (60 - (j + 1)) ((rdI T t 0 0).2.1 + 1) else (((rdI T t 0 0).2.1 : Nat) : Int)) := by
  obtain ⟨k, e⟩ : ∃ k, 60 - j = k + 1 := ⟨59 - j, by omega⟩
  rw [e] at h
  rw [← h, show 60 - (j + 1) = k by omega]
  rfl
theorem er_end {T : List Nat} {j t : Nat} (h : erF T (60 - j) t = erT T) (hj : 60 ≤ j) : (t : Int) = erT T := by
  rw [← h, show 60 - j = 0 by omega]
  rfl

set_option maxHeartbeats 4000000 in
set_option maxRecDepth 100000 in
theorem c_X5_findError {l : Launch} (hfl : l.flags = flags0) (D : va_G) (g : GT) (z : ZT) (a b : Nat) (T : List Nat) (at0 kd0 hp0 am0 : Int) (f : NF) (hT : txOK T) (hr : rep f T) : CI l yX5_findError wsX5_findError 6 147 0 D g z [.ref a] (txC g a b ((T.length : Nat) : Int) at0 kd0 hp0 am0 f) (fun (r9 : Int32) (u9 : Nat × Int × Int × Int) => r9 = iI (erT T)) (fun (u9 : Nat × Int × Int × Int) => txC g a b ((T.length : Nat) : Int) ((u9.1 : Nat) : Int) u9.2.1 u9.2.2.1 u9.2.2.2 f) 0 0 := by
  refine CI_of hfl (own := RX5) ⟨5, 0, 0, 126⟩ 6 147 0 (by decide +kernel) rfl rfl ⟨by decide, by decide, by decide +kernel⟩ ⟨by decide, by decide⟩ (le_ble rfl) (fun _ _ _ => rfl) ?_
  intro p e s m below meth c A Q F ret
  change J p l e _ s m _ below meth c A D _ Q 0 0 (txC g a b ((T.length : Nat) : Int) at0 kd0 hp0 am0 f) [(0, .ref a)] [] 0
  have hTl := hT.1
  refine j_aload_n F dX5_findError_0 rfl 0 rfl ?_
  refine j_iconst F dX5_findError_1 ?_
  refine j_putf F (ref := "CairnGame$Text") (C := RX5) (T := TX5) (N := 6) (ci := 5) (index := 19) (ty := .int) (ws' := txC g a b ((T.length : Nat) : Int) 0 kd0 hp0 am0 f) (fun w h => (List.mem_cons_of_mem _ (List.mem_append_right _ h))) tyX5 tyX5_ok nmX5 0 rfl rfl 2 (by decide) (List.mem_cons_of_mem _ (List.mem_append_left _ (List.mem_append_left _ (List.mem_of_getElem? (l := wsX5_findError_r1) (i := 0) rfl)))) rfl rfl rfl rfl rfl (lt_ble rfl) rfl dX5_findError_2 ?_
  refine j_iconst F dX5_findError_5 ?_
  refine j_istore_n F (lv' := [(1, .int (iI 0)), (0, .ref a)]) dX5_findError_6 rfl (by decide) rfl ?_
  refine J.loc [0, 1] rfl ?_
  refine J.wsEq (ws2 := txC g a b ((T.length : Nat) : Int) ((0 : Nat) : Int) kd0 hp0 am0 f) (rfl) ?_
  refine J_loop (σ := Nat × Nat × Int × Int × Int) (fun x9 : Nat × Nat × Int × Int × Int => match x9 with | (j, t, kd, hp, am) => (j ≤ 60 ∧ t ≤ 7 * j) ∧ erF T (60 - j) t = erT T) (fun x9 : Nat × Nat × Int × Int × Int => match x9 with | (j, t, kd, hp, am) => 60 - j) (fun x9 : Nat × Nat × Int × Int × Int => match x9 with | (j, t, kd, hp, am) => txC g a b ((T.length : Nat) : Int) ((t : Nat) : Int) kd hp am f) (fun x9 : Nat × Nat × Int × Int × Int => match x9 with | (j, t, kd, hp, am) => [(1, .int (iI (j : Int))), (0, .ref a)]) (0, 0, kd0, hp0, am0) (by show (0 ≤ 60 ∧ 0 ≤ 7 * 0) ∧ erF T (60 - 0) 0 = erT T; exact ⟨by omega, rfl⟩) ?_
  rintro ⟨j, t, kd, hp, am⟩ hI ih7
  have hI : (j ≤ 60 ∧ t ≤ 7 * j) ∧ erF T (60 - j) t = erT T := hI
  obtain ⟨⟨h1, h2⟩, h3⟩ := hI
  refine j_iload_n F dX5_findError_7 rfl 0 rfl ?_
  refine j_bipush F dX5_findError_8 (by decide) ?_
  refine j_icmp_ge F (tgt := 58) dX5_findError_10 (by decide) ⟨(by unfold rg; omega), (by unfold rg; omega)⟩ (fun c10 => ?_) (fun c10 => ?_)
  · refine j_aload_n F dX5_findError_58 rfl 1 rfl ?_
    refine j_getf F (ref := "CairnGame$Text") (C := RX5) (T := TX5) (N := 6) (ci := 5) (index := 19) (v := .int (iI ((t : Nat) : Int))) (fun w h => (List.mem_cons_of_mem _ (List.mem_append_right _ h))) 0 rfl rfl 2 (by decide) (List.mem_cons_of_mem _ (List.mem_append_left _ (List.mem_append_left _ (List.mem_of_getElem? (l := wsX5_findError_r1) (i := 0) rfl)))) rfl rfl dX5_findError_59 ?_
    exact ret _ (t, kd, hp, am) 0 0 _ _ dX5_findError_62 (by decide) (by decide) (congrArg iI (er_end h3 (by omega)))
  · obtain ⟨o1, o2, o3⟩ := rdI_ok T t hp am
    have hb9 := rdI_b T t hp am
    have h019 := rdI_01 T t hp am
    have hgo := er_go h3 (by omega)
    refine j_aload_n F dX5_findError_13 rfl 1 rfl ?_
    refine j_callV_I F (As := []) (wr := []) (st := []) (c_X5_readItem hfl D g z a b t T kd hp am f hT hr (by omega)) (idx := 31) (C := RX5) gX5_findError_X5_readItem rfl rfl [0, 1] [] rfl rfl (by decide) (by decide) (by decide) (ci := 5) (q0 := 0) rfl rfl (by decide) (by decide) (le_ble rfl) ⟨by decide, by decide⟩ dX5_findError_14 ?_
    rintro r9 u9 rfl
    refine J.wsEq (ws2 := txC g a b ((T.length : Nat) : Int) (((rdI T t hp am).2.1 : Nat) : Int) ((rdI T t hp am).2.2.1) ((rdI T t hp am).2.2.2.1) ((rdI T t hp am).2.2.2.2) f) rfl ?_
    refine j_if_ne F (tgt := 25) dX5_findError_17 (by decide) (by unfold rg; omega) (fun c17 => ?_) (fun c17 => ?_)
    · refine j_aload_n F dX5_findError_25 rfl 1 rfl ?_
      refine j_getf F (ref := "CairnGame$Text") (C := RX5) (T := TX5) (N := 6) (ci := 5) (index := 19) (v := .int (iI (((rdI T t hp am).2.1 : Nat) : Int))) (fun w h => (List.mem_cons_of_mem _ (List.mem_append_right _ h))) 0 rfl rfl 2 (by decide) (List.mem_cons_of_mem _ (List.mem_append_left _ (List.mem_append_left _ (List.mem_of_getElem? (l := wsX5_findError_r1) (i := 0) rfl)))) rfl rfl dX5_findError_26 ?_
      refine j_aload_n F dX5_findError_29 rfl 1 rfl ?_
      refine j_getf F (ref := "CairnGame$Text") (C := RX5) (T := TX5) (N := 6) (ci := 5) (index := 15) (v := .int (iI ((T.length : Nat) : Int))) (fun w h => (List.mem_cons_of_mem _ (List.mem_append_right _ h))) 0 rfl rfl 1 (by decide) (List.mem_cons_of_mem _ (List.mem_append_left _ (List.mem_append_left _ (List.mem_of_getElem? (l := wsX5_findError_r1) (i := 1) rfl)))) rfl rfl dX5_findError_30 ?_
      refine j_icmp_lt F (tgt := 38) dX5_findError_33 (by decide) ⟨(by unfold rg; omega), (by unfold rg; omega)⟩ (fun c33 => ?_) (fun c33 => ?_)
      · refine j_aload_n F dX5_findError_38 rfl 1 rfl ?_
        refine j_bipush F dX5_findError_39 (by decide) ?_
        refine j_callV_I F (As := [.int (iI 44)]) (wr := []) (st := []) (c_X5_readSign hfl D g z a b (rdI T t hp am).2.1 T (rdI T t hp am).2.2.1 (rdI T t hp am).2.2.2.1 (rdI T t hp am).2.2.2.2 f 44 hT hr (by omega) (by omega)) (idx := 35) (C := RX5) gX5_findError_X5_readSign rfl rfl [0, 1] [] rfl rfl (by decide) (by decide) (by decide) (ci := 5) (q0 := 0) rfl rfl (by decide) (by decide) (le_ble rfl) ⟨by decide, by decide⟩ dX5_findError_41 ?_
        rintro r9 u9 rfl
        refine J.wsEq (ws2 := txC g a b ((T.length : Nat) : Int) ((rdS T (rdI T t hp am).2.1 44 : Nat) : Int) ((rdI T t hp am).2.2.1) ((rdI T t hp am).2.2.2.1) ((rdI T t hp am).2.2.2.2) f) rfl ?_
        refine j_ifb_ne F (tgt := 52) dX5_findError_44 (by decide)  (fun c44 => ?_) (fun c44 => ?_)
        · have e6 : rdS T (rdI T t hp am).2.1 44 = (rdI T t hp am).2.1 + 1 := by unfold rdS; rw [if_pos c44]
          refine J.wsEq (ws2 := txC g a b ((T.length : Nat) : Int) (((rdI T t hp am).2.1 + 1 : Nat) : Int) ((rdI T t hp am).2.2.1) ((rdI T t hp am).2.2.2.1) ((rdI T t hp am).2.2.2.2) f) (by rw [e6]) ?_
          refine j_iinc F (lv' := [(1, .int (iI ((j : Int) + 1))), (0, .ref a)]) dX5_findError_52 0 rfl (by decide) rfl ?_
          refine j_goto F (tgt := 7) dX5_findError_55 (by decide) ?_
          refine J.loc [0, 1] rfl ?_
          exact ih7 ((j + 1), ((rdI T t hp am).2.1 + 1), (rdI T t hp am).2.2.1, (rdI T t hp am).2.2.2.1, (rdI T t hp am).2.2.2.2) (by show ((j + 1) ≤ 60 ∧ ((rdI T t hp am).2.1 + 1) ≤ 7 * (j + 1)) ∧ erF T (60 - (j + 1)) ((rdI T t hp am).2.1 + 1) = erT T; exact ⟨by omega, by rw [← o2, if_neg (by omega), if_neg (by omega), if_pos c44] at hgo; exact hgo.symm⟩) (by show 60 - (j + 1) < 60 - j; omega)
        · have e6 : rdS T (rdI T t hp am).2.1 44 = (rdI T t hp am).2.1 := by unfold rdS; rw [if_neg c44]
          refine J.wsEq (ws2 := txC g a b ((T.length : Nat) : Int) (((rdI T t hp am).2.1 : Nat) : Int) ((rdI T t hp am).2.2.1) ((rdI T t hp am).2.2.2.1) ((rdI T t hp am).2.2.2.2) f) (by rw [e6]) ?_
          refine j_aload_n F dX5_findError_47 rfl 1 rfl ?_
          refine j_getf F (ref := "CairnGame$Text") (C := RX5) (T := TX5) (N := 6) (ci := 5) (index := 19) (v := .int (iI (((rdI T t hp am).2.1 : Nat) : Int))) (fun w h => (List.mem_cons_of_mem _ (List.mem_append_right _ h))) 0 rfl rfl 2 (by decide) (List.mem_cons_of_mem _ (List.mem_append_left _ (List.mem_append_left _ (List.mem_of_getElem? (l := wsX5_findError_r1) (i := 0) rfl)))) rfl rfl dX5_findError_48 ?_
          exact ret _ ((rdI T t hp am).2.1, (rdI T t hp am).2.2.1, (rdI T t hp am).2.2.2.1, (rdI T t hp am).2.2.2.2) 0 0 _ _ dX5_findError_51 (by decide) (by decide) (by rw [hgo, if_neg (by omega), if_neg (by omega), if_neg (by rw [← o2]; exact c44), ← o2])
      · refine j_iconst F dX5_findError_36 ?_
        exact ret _ ((rdI T t hp am).2.1, (rdI T t hp am).2.2.1, (rdI T t hp am).2.2.2.1, (rdI T t hp am).2.2.2.2) 0 0 _ _ dX5_findError_37 (by decide) (by decide) (by rw [hgo, if_neg (by omega), if_pos (by omega)])
    · refine j_aload_n F dX5_findError_20 rfl 1 rfl ?_
      refine j_getf F (ref := "CairnGame$Text") (C := RX5) (T := TX5) (N := 6) (ci := 5) (index := 19) (v := .int (iI (((rdI T t hp am).2.1 : Nat) : Int))) (fun w h => (List.mem_cons_of_mem _ (List.mem_append_right _ h))) 0 rfl rfl 2 (by decide) (List.mem_cons_of_mem _ (List.mem_append_left _ (List.mem_append_left _ (List.mem_of_getElem? (l := wsX5_findError_r1) (i := 0) rfl)))) rfl rfl dX5_findError_21 ?_
      exact ret _ ((rdI T t hp am).2.1, (rdI T t hp am).2.2.1, (rdI T t hp am).2.2.2.1, (rdI T t hp am).2.2.2.2) 0 0 _ _ dX5_findError_24 (by decide) (by decide) (by rw [hgo, if_pos (by omega), ← o2])

end X5B