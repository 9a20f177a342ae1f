/-! ===== LAW: its small methods ===== -/
section LSMALL
theorem cI_at {c a : Nat} (h1 : 1 ≤ a) (h2 : a < 8) : cI c a = ((dgN c a : Nat) : Int) := if_pos ⟨h1, h2⟩
theorem dv_s {c i : Nat} (h : 1 ≤ i) : ((dvN c (i - 1) : Nat) : Int) / ((rdx i : Nat) : Int) = ((dvN c ((i + 1) - 1) : Nat) : Int) := by
  obtain ⟨j, rfl⟩ : ∃ j, i = j + 1 := ⟨i - 1, by omega⟩
  exact divN _ _
theorem hp_s {c i : Nat} (h : 1 ≤ i) : ((hpN c (i - 1) : Nat) : Int) + ((dgN c i : Nat) : Int) = ((hpN c ((i + 1) - 1) : Nat) : Int) := by
  obtain ⟨j, rfl⟩ : ∃ j, i = j + 1 := ⟨i - 1, by omega⟩
  exact (Int.natCast_add _ _).symm
theorem st_s {c i : Nat} (h : 1 ≤ i) : ((stN c (i - 1) : Nat) : Int) + (i : Int) * ((dgN c i : Nat) : Int) = ((stN c ((i + 1) - 1) : Nat) : Int) := by
  obtain ⟨j, rfl⟩ : ∃ j, i = j + 1 := ⟨i - 1, by omega⟩
  rfl
theorem cd_s {f : Nat → Int} {j : Nat} (h : j < 7) : codI f j * ((rdx (7 - j) : Nat) : Int) + f (7 - j) = codI f (j + 1) := rfl
theorem lay_1 {s j c : Nat} (hs : s < 8) (hj : j ≤ s) (hc : c < 1536) (h : stN c 7 = s ∧ hpN c 7 = s - j) : nup (nup (tabF (cS s ++ (cH s j ++ cL s (s - j) c))) (cS s ++ (cH s j ++ cL s (s - j) c)).length ((c : Nat) : Int)) 63 ((((cS s ++ (cH s j ++ cL s (s - j) c)).length : Nat) : Int) + 1) = tabF (cS s ++ (cH s j ++ cL s (s - j) (c + 1))) := by
  have hl := lay_len hs hj (show c ≤ 1536 by omega)
  rw [tabF_s c (by omega), cL_s, if_pos h, List.append_assoc, List.append_assoc]
theorem lay_0 {s j c : Nat} (h : ¬ (stN c 7 = s ∧ hpN c 7 = s - j)) : tabF (cS s ++ (cH s j ++ cL s (s - j) c)) = tabF (cS s ++ (cH s j ++ cL s (s - j) (c + 1))) := by
  rw [cL_s, if_neg h, List.append_nil]
theorem lay_63 {l : List Nat} (c : Int) (h : l.length < 63) : nup (tabF l) l.length c 63 = ((l.length : Nat) : Int) := by
  rw [nup_n _ _ (by omega), tabF_63]

set_option maxHeartbeats 4000000 in
set_option maxRecDepth 100000 in
theorem c_L_cell {l : Launch} (hfl : l.flags = flags0) (D : va_G) (g : GT) (z : ZT) (k : Nat) (hk : k < 100) (hz : z.2.1.2 ≤ 260) : CI l yL_cell wsL_cell 1 21 2 D g z [.ref z.2.1.1, .int (iI (k : Int))] ([]) (fun (r9 : Int32) (u9 : Int) => rg u9 ∧ r9 = iI u9) (fun (u9 : Int) => []) 0 0 := by
  refine CI_of hfl (own := RL) ⟨0, 0, 0, 0⟩ 1 21 2 (by decide +kernel) rfl rfl ⟨by decide, by decide, by decide +kernel⟩ ⟨by decide, by decide⟩ (le_ble rfl) (fun _ _ _ => rfl) ?_
  intro p e s m below meth c A Q F ret
  change J p l e _ s m _ below meth c A D _ Q 0 0 ([]) [(0, .ref z.2.1.1), (1, .int (iI (k : Int)))] [] 0
  refine j_iload_n F dL_cell_0 rfl 1 rfl ?_
  refine j_aload_n F dL_cell_1 rfl 0 rfl ?_
  refine j_scrlen F dL_cell_2 ?_
  refine j_icmp_ge F (tgt := 12) dL_cell_3 (by decide) ⟨(by unfold rg; omega), (by unfold rg; omega)⟩ (fun c3 => ?_) (fun c3 => ?_)
  · refine j_ldc F (n := 1000308137) (List.mem_cons_of_mem _ (List.mem_of_getElem? (i := 0) rfl)) (by decide) dL_cell_12 ?_
    refine j_iload_n F dL_cell_14 rfl 1 rfl ?_
    refine j_iconst F dL_cell_15 ?_
    refine j_iadd F dL_cell_16 ?_
    refine j_imul F dL_cell_17 ?_
    refine j_ldc F (n := 751363311) (List.mem_cons_of_mem _ (List.mem_of_getElem? (i := 1) rfl)) (by decide) dL_cell_18 ?_
    refine j_iadd F dL_cell_20 ?_
    exact ret _ ((iI ((1000308137 * ((k : Int) + 1)) + 751363311)).toInt) 0 0 _ _ dL_cell_21 (by decide) (by decide) (⟨rg_of _, (iI_of _).symm⟩)
  · refine j_aload_n F dL_cell_6 rfl 0 rfl ?_
    refine j_iload_n F dL_cell_7 rfl 1 rfl ?_
    refine j_scrld F k (rfl) (by omega) dL_cell_8 ?_
    refine j_goto F (tgt := 21) dL_cell_9 (by decide) ?_
    exact ret _ ((iI ((z.2.2 k).toInt)).toInt) 0 0 _ _ dL_cell_21 (by decide) (by decide) (⟨rg_of _, (iI_of _).symm⟩)

set_option maxHeartbeats 4000000 in
set_option maxRecDepth 100000 in
theorem c_L_low {l : Launch} (hfl : l.flags = flags0) (D : va_G) (g : GT) (z : ZT) (v : Int) (n : Nat) (hn : 0 < n ∧ n < 100) : CI l yL_low wsL_low 1 21 2 D g z [.int (iI v), .int (iI (n : Int))] ([]) (fun (r9 : Int32) (u9 : Nat) => u9 < n ∧ r9 = iI ((u9 : Nat) : Int)) (fun (u9 : Nat) => []) 0 0 := by
  refine CI_of hfl (own := RL) ⟨0, 0, 0, 0⟩ 1 21 2 (by decide +kernel) rfl rfl ⟨by decide, by decide, by decide +kernel⟩ ⟨by decide, by decide⟩ (le_ble rfl) (fun _ _ _ => rfl) ?_
  intro p e s m below meth c A Q F ret
  change J p l e _ s m _ below meth c A D _ Q 0 0 ([]) [(0, .int (iI v)), (1, .int (iI (n : Int)))] [] 0
  refine j_iload_n F dL_low_0 rfl 0 rfl ?_
  refine j_ldc F (n := 2147483647) (List.mem_cons_of_mem _ (List.mem_of_getElem? (i := 0) rfl)) (by decide) dL_low_1 ?_
  obtain ⟨w9, hw1, hw2⟩ := and31 (iI v)
  refine j_iand F (v := (iI (w9 : Int))) (hw2) dL_low_3 ?_
  refine j_iload_n F dL_low_4 rfl 1 rfl ?_
  refine j_irem F dL_low_5 (by omega) (by omega) ?_
  exact ret _ (w9 % n) 0 0 _ _ dL_low_6 (by decide) (by decide) (⟨Nat.mod_lt _ (by omega), congrArg iI (modN _ _)⟩)

set_option maxHeartbeats 4000000 in
set_option maxRecDepth 100000 in
theorem c_L_radix {l : Launch} (hfl : l.flags = flags0) (D : va_G) (g : GT) (z : ZT) (a : Nat) (ha : a < 100) : CI l yL_radix wsL_radix 1 20 1 D g z [.int (iI (a : Int))] ([]) (fun (r9 : Int32) (u9 : Unit) => r9 = iI ((rdx a : Nat) : Int)) (fun (u9 : Unit) => []) 0 0 := by
  refine CI_of hfl (own := RL) ⟨0, 0, 0, 0⟩ 1 20 1 (by decide +kernel) rfl rfl ⟨by decide, by decide, by decide +kernel⟩ ⟨by decide, by decide⟩ (le_ble rfl) (fun _ _ _ => rfl) ?_
  intro p e s m below meth c A Q F ret
  change J p l e _ s m _ below meth c A D _ Q 0 0 ([]) [(0, .int (iI (a : Int)))] [] 0
  refine j_iload_n F dL_radix_0 rfl 0 rfl ?_
  refine j_iconst F dL_radix_1 ?_
  refine j_icmp_ne F (tgt := 10) dL_radix_2 (by decide) ⟨(by unfold rg; omega), (by unfold rg; omega)⟩ (fun c2 => ?_) (fun c2 => ?_)
  · refine j_iload_n F dL_radix_10 rfl 0 rfl ?_
    refine j_iconst F dL_radix_11 ?_
    refine j_icmp_ne F (tgt := 19) dL_radix_12 (by decide) ⟨(by unfold rg; omega), (by unfold rg; omega)⟩ (fun c12 => ?_) (fun c12 => ?_)
    · refine j_iload_n F dL_radix_19 rfl 0 rfl ?_
      refine j_iconst F dL_radix_20 ?_
      refine j_icmp_ne F (tgt := 28) dL_radix_21 (by decide) ⟨(by unfold rg; omega), (by unfold rg; omega)⟩ (fun c21 => ?_) (fun c21 => ?_)
      · refine j_iconst F dL_radix_28 ?_
        exact ret _ () 0 0 _ _ dL_radix_29 (by decide) (by decide) (congrArg iI (by unfold rdx; (repeat' split) <;> omega))
      · refine j_iconst F dL_radix_24 ?_
        refine j_goto F (tgt := 29) dL_radix_25 (by decide) ?_
        exact ret _ () 0 0 _ _ dL_radix_29 (by decide) (by decide) (congrArg iI (by unfold rdx; (repeat' split) <;> omega))
    · refine j_iconst F dL_radix_15 ?_
      refine j_goto F (tgt := 29) dL_radix_16 (by decide) ?_
      exact ret _ () 0 0 _ _ dL_radix_29 (by decide) (by decide) (congrArg iI (by unfold rdx; (repeat' split) <;> omega))
  · refine j_bipush F dL_radix_5 (by decide) ?_
    refine j_goto F (tgt := 29) dL_radix_7 (by decide) ?_
    exact ret _ () 0 0 _ _ dL_radix_29 (by decide) (by decide) (congrArg iI (by unfold rdx; (repeat' split) <;> omega))

set_option maxHeartbeats 4000000 in
set_option maxRecDepth 100000 in
theorem c_L_code {l : Launch} (hfl : l.flags = flags0) (D : va_G) (g : GT) (z : ZT) (ca : Nat) (f : NF) : CI l yL_code wsL_code 2 42 1 D g z [.ref ca] ([(ca, iR g 8 f)]) (fun (r9 : Int32) (u9 : Unit) => r9 = iI (codI f 7)) (fun (u9 : Unit) => [(ca, iR g 8 f)]) 0 0 := by
  refine CI_of hfl (own := RL) ⟨1, 0, 0, 20⟩ 2 42 1 (by decide +kernel) rfl rfl ⟨by decide, by decide, by decide +kernel⟩ ⟨by decide, by decide⟩ (le_ble rfl) (fun _ _ _ => rfl) ?_
  intro p e s m below meth c A Q F ret
  change J p l e _ s m _ below meth c A D _ Q 0 0 ([(ca, iR g 8 f)]) [(0, .ref ca)] [] 0
  refine j_iconst F dL_code_0 ?_
  refine j_istore_n F (lv' := [(1, .int (iI 0)), (0, .ref ca)]) dL_code_1 rfl (by decide) rfl ?_
  refine j_bipush F dL_code_2 (by decide) ?_
  refine j_istore_n F (lv' := [(2, .int (iI 7)), (1, .int (iI 0)), (0, .ref ca)]) dL_code_4 rfl (by decide) rfl ?_
  refine J.loc [0, 1, 2] rfl ?_
  refine J_loop (σ := Nat × Int) (fun x9 : Nat × Int => match x9 with | (j, v) => j ≤ 7 ∧ v = codI f j) (fun x9 : Nat × Int => match x9 with | (j, v) => 7 - j) (fun x9 : Nat × Int => match x9 with | (j, v) => [(ca, iR g 8 f)]) (fun x9 : Nat × Int => match x9 with | (j, v) => [(2, .int (iI ((7 - j : Nat) : Int))), (1, .int (iI v)), (0, .ref ca)]) (0, 0) (by show 0 ≤ 7 ∧ 0 = codI f 0; exact ⟨by omega, rfl⟩) ?_
  rintro ⟨j, v⟩ hI ih5
  have hI : j ≤ 7 ∧ v = codI f j := hI
  obtain ⟨h1, h2⟩ := hI
  refine j_iload_n F dL_code_5 rfl 0 rfl ?_
  refine j_if_le F (tgt := 26) dL_code_6 (by decide) (by unfold rg; omega) (fun c6 => ?_) (fun c6 => ?_)
  · refine j_iload_n F dL_code_26 rfl 1 rfl ?_
    exact ret _ () 0 0 _ _ dL_code_27 (by decide) (by decide) (by rw [h2, show j = 7 by omega])
  · refine j_iload_n F dL_code_9 rfl 1 rfl ?_
    refine j_iload_n F dL_code_10 rfl 0 rfl ?_
    refine j_callS_I F (As := [.int (iI ((7 - j : Nat) : Int))]) (wr := [(ca, iR g 8 f)]) (st := [.int (iI v)]) (c_L_radix hfl D g z (7 - j) (by omega)) (idx := 10) gL_code_L_radix rfl [] [0] rfl rfl (by decide) (by decide) (by decide)  (by decide) (by decide) (le_ble rfl) ⟨by decide, by decide⟩ dL_code_11 ?_
    rintro r9 u9 rfl
    refine J.wsEq (ws2 := [(ca, iR g 8 f)]) rfl ?_
    refine j_imul F dL_code_14 ?_
    refine j_aload_n F dL_code_15 rfl 2 rfl ?_
    refine j_iload_n F dL_code_16 rfl 0 rfl ?_
    refine j_iald F 0 (n := 8) (f := f) rfl (7 - j) (rfl) (by omega) (by decide) dL_code_17 ?_
    refine j_iadd F dL_code_18 ?_
    refine j_istore_n F (lv' := [(1, .int (iI ((v * (((rdx (7 - j)) : Nat) : Int)) + f (7 - j)))), (2, .int (iI ((7 - j : Nat) : Int))), (0, .ref ca)]) dL_code_19 rfl (by decide) rfl ?_
    refine j_iinc F (lv' := [(2, .int (iI (((7 - j : Nat) : Int) + (-1)))), (1, .int (iI ((v * (((rdx (7 - j)) : Nat) : Int)) + f (7 - j)))), (0, .ref ca)]) dL_code_20 1 rfl (by decide) rfl ?_
    refine J.lvEq (lv2 := [(2, .int (iI ((7 - (j + 1) : Nat) : Int))), (1, .int (iI ((v * (((rdx (7 - j)) : Nat) : Int)) + f (7 - j)))), (0, .ref ca)]) (by first | (rw [show ((7 - j : Nat) : Int) + (-1) = ((7 - (j + 1) : Nat) : Int) by omega]) | (dsimp only; rw [show ((7 - j : Nat) : Int) + (-1) = ((7 - (j + 1) : Nat) : Int) by omega])) ?_
    refine j_goto F (tgt := 5) dL_code_23 (by decide) ?_
    refine J.loc [0, 1, 2] rfl ?_
    exact ih5 ((j + 1), ((v * (((rdx (7 - j)) : Nat) : Int)) + f (7 - j))) (by show (j + 1) ≤ 7 ∧ ((v * (((rdx (7 - j)) : Nat) : Int)) + f (7 - j)) = codI f (j + 1); exact ⟨by omega, by rw [h2]; exact cd_s (by omega)⟩) (by show 7 - (j + 1) < 7 - j; omega)

set_option maxHeartbeats 4000000 in
set_option maxRecDepth 100000 in
theorem c_L_decode {l : Launch} (hfl : l.flags = flags0) (D : va_G) (g : GT) (z : ZT) (ca c0 : Nat) (f : NF) (hc : c0 < 2000000000) : CV l yL_decode wsL_decode 2 43 2 D g z [.int (iI (c0 : Int)), .ref ca] ([(ca, iR g 8 f)]) (fun (u9 : Unit) => True) (fun (u9 : Unit) => [(ca, iR g 8 (decP c0 f 8))]) 0 0 := by
  refine CV_of hfl (own := RL) ⟨1, 0, 0, 20⟩ 2 43 2 (by decide +kernel) rfl rfl ⟨by decide, by decide, by decide +kernel⟩ ⟨by decide, by decide⟩ (le_ble rfl) ?_
  intro p e s m below meth c A Q F hin ret
  change J p l e _ s m _ below meth c A D _ Q 0 0 ([(ca, iR g 8 f)]) [(0, .int (iI (c0 : Int))), (1, .ref ca)] [] 0
  refine j_iload_n F dL_decode_0 rfl 0 rfl ?_
  refine j_istore_n F (lv' := [(2, .int (iI (c0 : Int))), (0, .int (iI (c0 : Int))), (1, .ref ca)]) dL_decode_1 rfl (by decide) rfl ?_
  refine j_iconst F dL_decode_2 ?_
  refine j_istore_n F (lv' := [(3, .int (iI 1)), (2, .int (iI (c0 : Int))), (0, .int (iI (c0 : Int))), (1, .ref ca)]) dL_decode_3 rfl (by decide) rfl ?_
  refine J.loc [0, 1, 2, 3] rfl ?_
  refine J_loop (σ := Nat × (Nat → Int)) (fun x9 : Nat × (Nat → Int) => match x9 with | (i, G) => (1 ≤ i ∧ i ≤ 8) ∧ G = decP c0 f i) (fun x9 : Nat × (Nat → Int) => match x9 with | (i, G) => 8 - i) (fun x9 : Nat × (Nat → Int) => match x9 with | (i, G) => [(ca, iR g 8 G)]) (fun x9 : Nat × (Nat → Int) => match x9 with | (i, G) => [(3, .int (iI (i : Int))), (2, .int (iI (((dvN c0 (i - 1)) : Nat) : Int))), (0, .int (iI (c0 : Int))), (1, .ref ca)]) (1, f) (by show (1 ≤ 1 ∧ 1 ≤ 8) ∧ f = decP c0 f 1; exact ⟨by omega, (decP_1 c0 f).symm⟩) ?_
  rintro ⟨i, G⟩ hI ih4
  have hI : (1 ≤ i ∧ i ≤ 8) ∧ G = decP c0 f i := hI
  obtain ⟨⟨h1, h2⟩, h3⟩ := hI
  have hd1 := dvN_le c0 (i - 1)
  have hr1 := rdx_b i
  refine j_iload_n F dL_decode_4 rfl 0 rfl ?_
  refine j_bipush F dL_decode_5 (by decide) ?_
  refine j_icmp_ge F (tgt := 32) dL_decode_7 (by decide) ⟨(by unfold rg; omega), (by unfold rg; omega)⟩ (fun c7 => ?_) (fun c7 => ?_)
  · refine J.wsEq (ws2 := [(ca, iR g 8 (decP c0 f 8))]) (by first | (rw [h3, show i = 8 by omega]) | (dsimp only; rw [h3, show i = 8 by omega])) ?_
    exact ret () 0 0 _ _ dL_decode_32 (by decide) (by decide) trivial
  · refine j_aload_n F dL_decode_10 rfl 3 rfl ?_
    refine j_iload_n F dL_decode_11 rfl 0 rfl ?_
    refine j_iload_n F dL_decode_12 rfl 1 rfl ?_
    refine j_iload_n F dL_decode_13 rfl 0 rfl ?_
    refine j_callS_I F (As := [.int (iI (i : Int))]) (wr := [(ca, iR g 8 G)]) (st := [.int (iI (((dvN c0 (i - 1)) : Nat) : Int)), .int (iI (i : Int)), .ref ca]) (c_L_radix hfl D g z i (by omega)) (idx := 10) gL_decode_L_radix rfl [] [0] rfl rfl (by decide) (by decide) (by decide)  (by decide) (by decide) (le_ble rfl) ⟨by decide, by decide⟩ dL_decode_14 ?_
    rintro r9 u9 rfl
    refine J.wsEq (ws2 := [(ca, iR g 8 G)]) rfl ?_
    refine j_irem F dL_decode_17 (by omega) (by omega) ?_
    refine J.top (congrArg iI (show ((((dvN c0 (i - 1)) : Nat) : Int) % (((rdx i) : Nat) : Int)) = (((dgN c0 i) : Nat) : Int) from modN _ _)) ?_
    refine j_iast F (ws' := [(ca, iR g 8 (nup G i (((dgN c0 i) : Nat) : Int)))]) 0 (n := 8) (f := G) rfl i (rfl) (by omega) (by decide) rfl dL_decode_18 ?_
    refine j_iload_n F dL_decode_19 rfl 1 rfl ?_
    refine j_iload_n F dL_decode_20 rfl 0 rfl ?_
    refine j_callS_I F (As := [.int (iI (i : Int))]) (wr := [(ca, iR g 8 (nup G i (((dgN c0 i) : Nat) : Int)))]) (st := [.int (iI (((dvN c0 (i - 1)) : Nat) : Int))]) (c_L_radix hfl D g z i (by omega)) (idx := 10) gL_decode_L_radix rfl [] [0] rfl rfl (by decide) (by decide) (by decide)  (by decide) (by decide) (le_ble rfl) ⟨by decide, by decide⟩ dL_decode_21 ?_
    rintro r9 u9 rfl
    refine J.wsEq (ws2 := [(ca, iR g 8 (nup G i (((dgN c0 i) : Nat) : Int)))]) rfl ?_
    refine j_idiv F dL_decode_24 (by omega) (by omega) ?_
    refine J.top (congrArg iI (show ((((dvN c0 (i - 1)) : Nat) : Int) / (((rdx i) : Nat) : Int)) = (((dvN c0 ((i + 1) - 1)) : Nat) : Int) from dv_s h1)) ?_
    refine j_istore_n F (lv' := [(2, .int (iI (((dvN c0 ((i + 1) - 1)) : Nat) : Int))), (3, .int (iI (i : Int))), (0, .int (iI (c0 : Int))), (1, .ref ca)]) dL_decode_25 rfl (by decide) rfl ?_
    refine j_iinc F (lv' := [(3, .int (iI ((i : Int) + 1))), (2, .int (iI (((dvN c0 ((i + 1) - 1)) : Nat) : Int))), (0, .int (iI (c0 : Int))), (1, .ref ca)]) dL_decode_26 1 rfl (by decide) rfl ?_
    refine j_goto F (tgt := 4) dL_decode_29 (by decide) ?_
    refine J.loc [0, 1, 2, 3] rfl ?_
    exact ih4 ((i + 1), (nup G i ((dgN c0 i : Nat) : Int))) (by show (1 ≤ (i + 1) ∧ (i + 1) ≤ 8) ∧ (nup G i ((dgN c0 i : Nat) : Int)) = decP c0 f (i + 1); exact ⟨by omega, by rw [h3]; exact decP_s c0 f h1⟩) (by show 8 - (i + 1) < 8 - i; omega)

set_option maxHeartbeats 4000000 in
set_option maxRecDepth 100000 in
theorem c_L_find {l : Launch} (hfl : l.flags = flags0) (D : va_G) (g : GT) (z : ZT) (ta : Nat) (tF : NF) (i : Nat) (hi : i < 45) (hT : posW tF) : CI l yL_find wsL_find 1 22 2 D g z [.int (iI (((posL.getD i 0) : Nat) : Int)), .ref ta] ([(ta, iR g 64 tF)]) (fun (r9 : Int32) (u9 : Unit) => r9 = iI ((i : Nat) : Int)) (fun (u9 : Unit) => [(ta, iR g 64 tF)]) 0 0 := by
  refine CI_of hfl (own := RL) ⟨0, 0, 0, 0⟩ 1 22 2 (by decide +kernel) rfl rfl ⟨by decide, by decide, by decide +kernel⟩ ⟨by decide, by decide⟩ (le_ble rfl) (fun _ _ _ => rfl) ?_
  intro p e s m below meth c A Q F ret
  change J p l e _ s m _ below meth c A D _ Q 0 0 ([(ta, iR g 64 tF)]) [(0, .int (iI (((posL.getD i 0) : Nat) : Int))), (1, .ref ta)] [] 0
  refine j_iconst F dL_find_0 ?_
  refine j_istore_n F (lv' := [(2, .int (iI 0)), (0, .int (iI (((posL.getD i 0) : Nat) : Int))), (1, .ref ta)]) dL_find_1 rfl (by decide) rfl ?_
  refine J.loc [0, 1, 2] rfl ?_
  refine J_loop (σ := Nat) (fun j : Nat => j ≤ i) (fun j : Nat => i - j) (fun j : Nat => [(ta, iR g 64 tF)]) (fun j : Nat => [(2, .int (iI (j : Int))), (0, .int (iI (((posL.getD i 0) : Nat) : Int))), (1, .ref ta)]) (0) (by show 0 ≤ i; exact Nat.zero_le _) ?_
  rintro j hI ih2
  have hI : j ≤ i := hI
  have hb1 := posL_lt i hi
  have hb2 := posL_lt j (by omega)
  refine j_aload_n F dL_find_2 rfl 2 rfl ?_
  refine j_iload_n F dL_find_3 rfl 0 rfl ?_
  refine j_iald F 0 (n := 64) (f := tF) rfl j (rfl) (by omega) (by decide) dL_find_4 ?_
  refine J.top (congrArg iI (show tF j = (((posL.getD j 0) : Nat) : Int) from hT.1 j (by omega))) ?_
  refine j_iload_n F dL_find_5 rfl 1 rfl ?_
  refine j_icmp_eq F (tgt := 15) dL_find_6 (by decide) ⟨(by unfold rg; omega), (by unfold rg; omega)⟩ (fun c6 => ?_) (fun c6 => ?_)
  · refine j_iload_n F dL_find_15 rfl 0 rfl ?_
    exact ret _ () 0 0 _ _ dL_find_16 (by decide) (by decide) (by rw [posL_nd j (by omega) i hi (by omega)])
  · have hji : ¬ j = i := fun e9 => c6 (by rw [e9])
    refine j_iinc F (lv' := [(2, .int (iI ((j : Int) + 1))), (0, .int (iI (((posL.getD i 0) : Nat) : Int))), (1, .ref ta)]) dL_find_9 0 rfl (by decide) rfl ?_
    refine j_goto F (tgt := 2) dL_find_12 (by decide) ?_
    refine J.loc [0, 1, 2] rfl ?_
    exact ih2 (j + 1) (by show (j + 1) ≤ i; omega) (by show i - (j + 1) < i - j; omega)

set_option maxHeartbeats 4000000 in
set_option maxRecDepth 100000 in
theorem c_L_lay {l : Launch} (hfl : l.flags = flags0) (D : va_G) (g : GT) (z : ZT) (ta : Nat) : CV l yL_lay wsL_lay 3 70 1 D g z [.ref ta] ([(ta, iR g 64 (fun _ => 0))]) (fun (u9 : Unit) => True) (fun (u9 : Unit) => [(ta, iR g 64 (tabF posL))]) 1 8 := by
  refine CV_of hfl (own := RL) ⟨2, 1, 8, 43⟩ 3 70 1 (by decide +kernel) rfl rfl ⟨by decide, by decide, by decide +kernel⟩ ⟨by decide, by decide⟩ (le_ble rfl) ?_
  intro p e s m below meth c A Q F hin ret
  change J p l e _ s m _ below meth c A D _ Q 0 0 ([(ta, iR g 64 (fun _ => 0))]) [(0, .ref ta)] [] 0
  refine j_bipush F dL_lay_0 (by decide) ?_
  refine j_newa_i F (ws' := fun q2 => [(ta, iR g 64 (fun _ => 0))] ++ ([(q2, iR g 8 (fun _ => 0))])) 8 rfl (by decide) (List.mem_cons_of_mem _ (List.mem_of_getElem? (i := 0) rfl)) (by decide) (by decide) dL_lay_2 (fun _ => rfl) (fun q2 => ?_)
  refine j_astore_n F (lv' := [(1, .ref q2), (0, .ref ta)]) dL_lay_4 rfl (by decide) rfl ?_
  refine j_aload_n F dL_lay_5 rfl 1 rfl ?_
  refine j_bipush F dL_lay_6 (by decide) ?_
  refine j_iconst F dL_lay_8 ?_
  refine j_iast F (ws' := [(ta, iR g 64 (nup (fun _ => 0) 63 0))] ++ ([(q2, iR g 8 (fun _ => 0))])) 0 (n := 64) (f := (fun _ => 0)) rfl 63 (by decide) (by omega) (by decide) rfl dL_lay_9 ?_
  refine J.wsEq (ws2 := [(ta, iR g 64 (tabF (cS 0)))] ++ ([(q2, iR g 8 (cI 0))])) (by first | (rw [tabF_0, cI_0]; rfl) | (dsimp only; rw [tabF_0, cI_0]; rfl)) ?_
  refine j_iconst F dL_lay_10 ?_
  refine j_istore_n F (lv' := [(2, .int (iI 0)), (1, .ref q2), (0, .ref ta)]) dL_lay_11 rfl (by decide) rfl ?_
  refine J.loc [0, 1, 2] rfl ?_
  refine J_loop (σ := Nat × Nat) (fun x9 : Nat × Nat => match x9 with | (s1, k0) => s1 ≤ 8) (fun x9 : Nat × Nat => match x9 with | (s1, k0) => 8 - s1) (fun x9 : Nat × Nat => match x9 with | (s1, k0) => [(ta, iR g 64 (tabF (cS s1)))] ++ ([(q2, iR g 8 (cI k0))])) (fun x9 : Nat × Nat => match x9 with | (s1, k0) => [(2, .int (iI (s1 : Int))), (1, .ref q2), (0, .ref ta)]) (0, 0) (by show 0 ≤ 8; exact Nat.zero_le _) ?_
  rintro ⟨s1, k0⟩ hI ih12
  have hI : s1 ≤ 8 := hI
  refine j_iload_n F dL_lay_12 rfl 0 rfl ?_
  refine j_bipush F dL_lay_13 (by decide) ?_
  refine j_icmp_ge F (tgt := 133) dL_lay_15 (by decide) ⟨(by unfold rg; omega), (by unfold rg; omega)⟩ (fun c15 => ?_) (fun c15 => ?_)
  · refine J.wsEq (ws2 := [(ta, iR g 64 (tabF posL))] ++ ([(q2, iR g 8 (cI k0))])) (by first | (rw [show s1 = 8 by omega, cS_8]) | (dsimp only; rw [show s1 = 8 by omega, cS_8])) ?_
    refine J.perm (ws' := [(ta, iR g 64 (tabF posL))]) [0] rfl rfl ?_
    exact ret () 1 8 _ _ dL_lay_133 (by decide) (by decide) trivial
  · refine j_iload_n F dL_lay_18 rfl 0 rfl ?_
    refine j_istore_n F (lv' := [(3, .int (iI (s1 : Int))), (2, .int (iI (s1 : Int))), (1, .ref q2), (0, .ref ta)]) dL_lay_19 rfl (by decide) rfl ?_
    refine J.lvEq (lv2 := [(3, .int (iI ((s1 : Int) - ((0 : Nat) : Int)))), (2, .int (iI (s1 : Int))), (1, .ref q2), (0, .ref ta)]) (by rw [show (s1 : Int) - ((0 : Nat) : Int) = (s1 : Int) by omega]) ?_
    refine J.loc [0, 1, 2, 3] rfl ?_
    refine J.wsEq (ws2 := [(ta, iR g 64 (tabF (cS s1 ++ cH s1 0)))] ++ ([(q2, iR g 8 (cI k0))])) (by rw [show cS s1 ++ cH s1 0 = cS s1 from List.append_nil _]) ?_
    refine J_loop (σ := Nat × Nat) (fun x9 : Nat × Nat => match x9 with | (j, k1) => j ≤ s1 + 1) (fun x9 : Nat × Nat => match x9 with | (j, k1) => (s1 + 1) - j) (fun x9 : Nat × Nat => match x9 with | (j, k1) => [(ta, iR g 64 (tabF (cS s1 ++ cH s1 j)))] ++ ([(q2, iR g 8 (cI k1))])) (fun x9 : Nat × Nat => match x9 with | (j, k1) => [(3, .int (iI ((s1 : Int) - (j : Int)))), (2, .int (iI (s1 : Int))), (1, .ref q2), (0, .ref ta)]) (0, k0) (by show 0 ≤ s1 + 1; exact Nat.zero_le _) ?_
    rintro ⟨j, k1⟩ hI ih20
    have hI : j ≤ s1 + 1 := hI
    refine j_iload_n F dL_lay_20 rfl 0 rfl ?_
    refine j_if_lt F (tgt := 127) dL_lay_21 (by decide) (by unfold rg; omega) (fun c21 => ?_) (fun c21 => ?_)
    · refine J.wsEq (ws2 := [(ta, iR g 64 (tabF (cS (s1 + 1))))] ++ ([(q2, iR g 8 (cI k1))])) (by first | (rw [show j = s1 + 1 by omega]; rfl) | (dsimp only; rw [show j = s1 + 1 by omega]; rfl)) ?_
      refine j_iinc F (lv' := [(2, .int (iI ((s1 : Int) + 1))), (3, .int (iI ((s1 : Int) - (j : Int)))), (1, .ref q2), (0, .ref ta)]) dL_lay_127 1 rfl (by decide) rfl ?_
      refine j_goto F (tgt := 12) dL_lay_130 (by decide) ?_
      refine J.loc [0, 2, 3] rfl ?_
      exact ih12 ((s1 + 1), k1) (by show (s1 + 1) ≤ 8; omega) (by show 8 - (s1 + 1) < 8 - s1; omega)
    · refine j_iconst F dL_lay_24 ?_
      refine j_istore F (lv' := [(4, .int (iI 0)), (3, .int (iI ((s1 : Int) - (j : Int)))), (2, .int (iI (s1 : Int))), (1, .ref q2), (0, .ref ta)]) dL_lay_25 (by decide) rfl ?_
      refine J.loc [0, 1, 2, 3, 4] rfl ?_
      refine J.wsEq (ws2 := [(ta, iR g 64 (tabF (cS s1 ++ (cH s1 j ++ cL s1 (s1 - j) 0))))] ++ ([(q2, iR g 8 (cI k1))])) (by rw [show cL s1 (s1 - j) 0 = [] from rfl, List.append_nil]) ?_
      refine J_loop (σ := Nat × Nat) (fun x9 : Nat × Nat => match x9 with | (c5, k2) => c5 ≤ 1536) (fun x9 : Nat × Nat => match x9 with | (c5, k2) => 1536 - c5) (fun x9 : Nat × Nat => match x9 with | (c5, k2) => [(ta, iR g 64 (tabF (cS s1 ++ (cH s1 j ++ cL s1 (s1 - j) c5))))] ++ ([(q2, iR g 8 (cI k2))])) (fun x9 : Nat × Nat => match x9 with | (c5, k2) => [(4, .int (iI (c5 : Int))), (3, .int (iI ((s1 : Int) - (j : Int)))), (2, .int (iI (s1 : Int))), (1, .ref q2), (0, .ref ta)]) (0, k1) (by show 0 ≤ 1536; exact Nat.zero_le _) ?_
      rintro ⟨c5, k2⟩ hI ih27
      have hI : c5 ≤ 1536 := hI
      refine j_iload F dL_lay_27 0 rfl ?_
      refine j_sipush F dL_lay_29 (by decide) ?_
      refine j_icmp_ge F (tgt := 121) dL_lay_32 (by decide) ⟨(by unfold rg; omega), (by unfold rg; omega)⟩ (fun c32 => ?_) (fun c32 => ?_)
      · refine J.wsEq (ws2 := [(ta, iR g 64 (tabF (cS s1 ++ cH s1 (j + 1))))] ++ ([(q2, iR g 8 (cI k2))])) (by first | (rw [show c5 = 1536 by omega]; rfl) | (dsimp only; rw [show c5 = 1536 by omega]; rfl)) ?_
        refine j_iinc F (lv' := [(3, .int (iI (((s1 : Int) - (j : Int)) + (-1)))), (4, .int (iI (c5 : Int))), (2, .int (iI (s1 : Int))), (1, .ref q2), (0, .ref ta)]) dL_lay_121 1 rfl (by decide) rfl ?_
        refine J.lvEq (lv2 := [(3, .int (iI ((s1 : Int) - ((j + 1 : Nat) : Int)))), (4, .int (iI (c5 : Int))), (2, .int (iI (s1 : Int))), (1, .ref q2), (0, .ref ta)]) (by first | (rw [show (s1 : Int) - (j : Int) + (-1) = (s1 : Int) - ((j + 1 : Nat) : Int) by omega]) | (dsimp only; rw [show (s1 : Int) - (j : Int) + (-1) = (s1 : Int) - ((j + 1 : Nat) : Int) by omega])) ?_
        refine j_goto F (tgt := 20) dL_lay_124 (by decide) ?_
        refine J.loc [0, 2, 3, 4] rfl ?_
        exact ih20 ((j + 1), k2) (by show (j + 1) ≤ s1 + 1; omega) (by show (s1 + 1) - (j + 1) < (s1 + 1) - j; omega)
      · refine j_iload F dL_lay_35 0 rfl ?_
        refine j_aload_n F dL_lay_37 rfl 3 rfl ?_
        refine j_callS_V F (As := [.int (iI (c5 : Int)), .ref q2]) (wr := [(ta, iR g 64 (tabF (cS s1 ++ (cH s1 j ++ cL s1 (s1 - j) c5))))]) (st := []) (c_L_decode hfl D g z q2 c5 (cI k2) (by omega)) (idx := 16) gL_lay_L_decode rfl [1] [0] rfl rfl (by decide) (by decide) (by decide)  (by decide) (by decide) (le_ble rfl) ⟨by decide, by decide⟩ dL_lay_38 ?_
        rintro u9 h9
        refine J.wsEq (ws2 := [(ta, iR g 64 (tabF (cS s1 ++ (cH s1 j ++ cL s1 (s1 - j) c5))))] ++ ([(q2, iR g 8 (decP c5 (cI k2) 8))])) rfl ?_
        refine J.wsEq (ws2 := [(ta, iR g 64 (tabF (cS s1 ++ (cH s1 j ++ cL s1 (s1 - j) c5))))] ++ ([(q2, iR g 8 (cI c5))])) (by first | (rw [cI_dec]) | (dsimp only; rw [cI_dec])) ?_
        refine j_iconst F dL_lay_41 ?_
        refine j_istore F (lv' := [(5, .int (iI 0)), (4, .int (iI (c5 : Int))), (3, .int (iI ((s1 : Int) - (j : Int)))), (2, .int (iI (s1 : Int))), (1, .ref q2), (0, .ref ta)]) dL_lay_42 (by decide) rfl ?_
        refine j_iconst F dL_lay_44 ?_
        refine j_istore F (lv' := [(6, .int (iI 0)), (5, .int (iI 0)), (4, .int (iI (c5 : Int))), (3, .int (iI ((s1 : Int) - (j : Int)))), (2, .int (iI (s1 : Int))), (1, .ref q2), (0, .ref ta)]) dL_lay_45 (by decide) rfl ?_
        refine j_iconst F dL_lay_47 ?_
        refine j_istore F (lv' := [(7, .int (iI 1)), (6, .int (iI 0)), (5, .int (iI 0)), (4, .int (iI (c5 : Int))), (3, .int (iI ((s1 : Int) - (j : Int)))), (2, .int (iI (s1 : Int))), (1, .ref q2), (0, .ref ta)]) dL_lay_48 (by decide) rfl ?_
        refine J.loc [0, 1, 2, 3, 4, 5, 6, 7] rfl ?_
        refine J_loop (σ := Nat) (fun i : Nat => 1 ≤ i ∧ i ≤ 8) (fun i : Nat => 8 - i) (fun i : Nat => [(ta, iR g 64 (tabF (cS s1 ++ (cH s1 j ++ cL s1 (s1 - j) c5))))] ++ ([(q2, iR g 8 (cI c5))])) (fun i : Nat => [(7, .int (iI (i : Int))), (6, .int (iI (((stN c5 (i - 1)) : Nat) : Int))), (5, .int (iI (((hpN c5 (i - 1)) : Nat) : Int))), (4, .int (iI (c5 : Int))), (3, .int (iI ((s1 : Int) - (j : Int)))), (2, .int (iI (s1 : Int))), (1, .ref q2), (0, .ref ta)]) (1) (by show 1 ≤ 1 ∧ 1 ≤ 8; omega) ?_
        rintro i hI ih50
        have hI : 1 ≤ i ∧ i ≤ 8 := hI
        obtain ⟨i1, i2⟩ := hI
        have hb1 := hpN_b c5 (i - 1)
        have hb2 := stN_b c5 (i - 1) (by omega)
        have hb3 := dgN_b c5 i
        refine j_iload F dL_lay_50 0 rfl ?_
        refine j_bipush F dL_lay_52 (by decide) ?_
        refine j_icmp_ge F (tgt := 84) dL_lay_54 (by decide) ⟨(by unfold rg; omega), (by unfold rg; omega)⟩ (fun c54 => ?_) (fun c54 => ?_)
        · have e8 : i - 1 = 7 := by omega
          refine j_iload F dL_lay_84 1 rfl ?_
          refine j_iload_n F dL_lay_86 rfl 5 rfl ?_
          refine j_icmp_ne F (tgt := 115) dL_lay_87 (by decide) ⟨(by unfold rg; omega), (by unfold rg; omega)⟩ (fun c87 => ?_) (fun c87 => ?_)
          · rw [e8] at c87
            have hno : ¬ (stN c5 7 = s1 ∧ hpN c5 7 = s1 - j) := fun q9 => c87 (by rw [q9.1])
            refine J.wsEq (ws2 := [(ta, iR g 64 (tabF (cS s1 ++ (cH s1 j ++ cL s1 (s1 - j) (c5 + 1)))))] ++ ([(q2, iR g 8 (cI c5))])) (by first | (rw [lay_0 hno]) | (dsimp only; rw [lay_0 hno])) ?_
            refine j_iinc F (lv' := [(4, .int (iI ((c5 : Int) + 1))), (7, .int (iI (i : Int))), (6, .int (iI (((stN c5 (i - 1)) : Nat) : Int))), (5, .int (iI (((hpN c5 (i - 1)) : Nat) : Int))), (3, .int (iI ((s1 : Int) - (j : Int)))), (2, .int (iI (s1 : Int))), (1, .ref q2), (0, .ref ta)]) dL_lay_115 3 rfl (by decide) rfl ?_
            refine j_goto F (tgt := 27) dL_lay_118 (by decide) ?_
            refine J.loc [0, 4, 5, 6, 7] rfl ?_
            exact ih27 ((c5 + 1), c5) (by show (c5 + 1) ≤ 1536; omega) (by show 1536 - (c5 + 1) < 1536 - c5; omega)
          · rw [e8] at c87
            refine j_iload F dL_lay_90 2 rfl ?_
            refine j_iload_n F dL_lay_92 rfl 4 rfl ?_
            refine j_icmp_eq F (tgt := 99) dL_lay_93 (by decide) ⟨(by unfold rg; omega), (by unfold rg; omega)⟩ (fun c93 => ?_) (fun c93 => ?_)
            · rw [e8] at c93
              have hyes : stN c5 7 = s1 ∧ hpN c5 7 = s1 - j := ⟨by omega, by omega⟩
              have hlen := lay_len (s := s1) (j := j) (n := c5) (by omega) (by omega) (by omega)
              refine j_aload_n F dL_lay_99 rfl 7 rfl ?_
              refine j_aload_n F dL_lay_100 rfl 7 rfl ?_
              refine j_bipush F dL_lay_101 (by decide) ?_
              refine j_iald F 0 (n := 64) (f := (tabF (cS s1 ++ (cH s1 j ++ cL s1 (s1 - j) c5)))) rfl 63 (by decide) (by decide) (by decide) dL_lay_103 ?_
              refine J.top (congrArg iI (show (tabF (cS s1 ++ (cH s1 j ++ cL s1 (s1 - j) c5))) 63 = (((cS s1 ++ (cH s1 j ++ cL s1 (s1 - j) c5)).length : Nat) : Int) from tabF_63 _)) ?_
              refine j_iload F dL_lay_104 3 rfl ?_
              refine j_iast F (ws' := [(ta, iR g 64 (nup (tabF (cS s1 ++ (cH s1 j ++ cL s1 (s1 - j) c5))) ((cS s1 ++ (cH s1 j ++ cL s1 (s1 - j) c5)).length) (c5 : Int)))] ++ ([(q2, iR g 8 (cI c5))])) 0 (n := 64) (f := (tabF (cS s1 ++ (cH s1 j ++ cL s1 (s1 - j) c5)))) rfl ((cS s1 ++ (cH s1 j ++ cL s1 (s1 - j) c5)).length) (rfl) (by omega) (by decide) rfl dL_lay_106 ?_
              refine j_aload_n F dL_lay_107 rfl 7 rfl ?_
              refine j_bipush F dL_lay_108 (by decide) ?_
              refine j_dup2 F dL_lay_110 rfl rfl ?_
              refine j_iald F 0 (n := 64) (f := (nup (tabF (cS s1 ++ (cH s1 j ++ cL s1 (s1 - j) c5))) ((cS s1 ++ (cH s1 j ++ cL s1 (s1 - j) c5)).length) (c5 : Int))) rfl 63 (by decide) (by decide) (by decide) dL_lay_111 ?_
              refine J.top (congrArg iI (show (nup (tabF (cS s1 ++ (cH s1 j ++ cL s1 (s1 - j) c5))) ((cS s1 ++ (cH s1 j ++ cL s1 (s1 - j) c5)).length) (c5 : Int)) 63 = (((cS s1 ++ (cH s1 j ++ cL s1 (s1 - j) c5)).length : Nat) : Int) from lay_63 _ (by omega))) ?_
              refine j_iconst F dL_lay_112 ?_
              refine j_iadd F dL_lay_113 ?_
              refine j_iast F (ws' := [(ta, iR g 64 (nup (nup (tabF (cS s1 ++ (cH s1 j ++ cL s1 (s1 - j) c5))) ((cS s1 ++ (cH s1 j ++ cL s1 (s1 - j) c5)).length) (c5 : Int)) 63 ((((cS s1 ++ (cH s1 j ++ cL s1 (s1 - j) c5)).length : Nat) : Int) + 1)))] ++ ([(q2, iR g 8 (cI c5))])) 0 (n := 64) (f := (nup (tabF (cS s1 ++ (cH s1 j ++ cL s1 (s1 - j) c5))) ((cS s1 ++ (cH s1 j ++ cL s1 (s1 - j) c5)).length) (c5 : Int))) rfl 63 (by decide) (by decide) (by decide) rfl dL_lay_114 ?_
              refine J.wsEq (ws2 := [(ta, iR g 64 (tabF (cS s1 ++ (cH s1 j ++ cL s1 (s1 - j) (c5 + 1)))))] ++ ([(q2, iR g 8 (cI c5))])) (by first | (rw [lay_1 (by omega) (by omega) (by omega) hyes]) | (dsimp only; rw [lay_1 (by omega) (by omega) (by omega) hyes])) ?_
              refine j_iinc F (lv' := [(4, .int (iI ((c5 : Int) + 1))), (7, .int (iI (i : Int))), (6, .int (iI (((stN c5 (i - 1)) : Nat) : Int))), (5, .int (iI (((hpN c5 (i - 1)) : Nat) : Int))), (3, .int (iI ((s1 : Int) - (j : Int)))), (2, .int (iI (s1 : Int))), (1, .ref q2), (0, .ref ta)]) dL_lay_115 3 rfl (by decide) rfl ?_
              refine j_goto F (tgt := 27) dL_lay_118 (by decide) ?_
              refine J.loc [0, 4, 5, 6, 7] rfl ?_
              exact ih27 ((c5 + 1), c5) (by show (c5 + 1) ≤ 1536; omega) (by show 1536 - (c5 + 1) < 1536 - c5; omega)
            · rw [e8] at c93
              have hno : ¬ (stN c5 7 = s1 ∧ hpN c5 7 = s1 - j) := fun q9 => c93 (by rw [q9.2]; omega)
              refine j_goto F (tgt := 115) dL_lay_96 (by decide) ?_
              refine J.wsEq (ws2 := [(ta, iR g 64 (tabF (cS s1 ++ (cH s1 j ++ cL s1 (s1 - j) (c5 + 1)))))] ++ ([(q2, iR g 8 (cI c5))])) (by first | (rw [lay_0 hno]) | (dsimp only; rw [lay_0 hno])) ?_
              refine j_iinc F (lv' := [(4, .int (iI ((c5 : Int) + 1))), (7, .int (iI (i : Int))), (6, .int (iI (((stN c5 (i - 1)) : Nat) : Int))), (5, .int (iI (((hpN c5 (i - 1)) : Nat) : Int))), (3, .int (iI ((s1 : Int) - (j : Int)))), (2, .int (iI (s1 : Int))), (1, .ref q2), (0, .ref ta)]) dL_lay_115 3 rfl (by decide) rfl ?_
              refine j_goto F (tgt := 27) dL_lay_118 (by decide) ?_
              refine J.loc [0, 4, 5, 6, 7] rfl ?_
              exact ih27 ((c5 + 1), c5) (by show (c5 + 1) ≤ 1536; omega) (by show 1536 - (c5 + 1) < 1536 - c5; omega)
        · refine j_iload F dL_lay_57 2 rfl ?_
          refine j_aload_n F dL_lay_59 rfl 6 rfl ?_
          refine j_iload F dL_lay_60 0 rfl ?_
          refine j_iald F 1 (n := 8) (f := (cI c5)) rfl i (rfl) (by omega) (by decide) dL_lay_62 ?_
          refine J.top (congrArg iI (show (cI c5) i = (((dgN c5 i) : Nat) : Int) from cI_at i1 (by omega))) ?_
          refine j_iadd F dL_lay_63 ?_
          refine J.top (congrArg iI (show ((((hpN c5 (i - 1)) : Nat) : Int) + (((dgN c5 i) : Nat) : Int)) = (((hpN c5 ((i + 1) - 1)) : Nat) : Int) from hp_s i1)) ?_
          refine j_istore F (lv' := [(5, .int (iI (((hpN c5 ((i + 1) - 1)) : Nat) : Int))), (7, .int (iI (i : Int))), (6, .int (iI (((stN c5 (i - 1)) : Nat) : Int))), (4, .int (iI (c5 : Int))), (3, .int (iI ((s1 : Int) - (j : Int)))), (2, .int (iI (s1 : Int))), (1, .ref q2), (0, .ref ta)]) dL_lay_64 (by decide) rfl ?_
          refine j_iload F dL_lay_66 2 rfl ?_
          refine j_iload F dL_lay_68 1 rfl ?_
          refine j_aload_n F dL_lay_70 rfl 6 rfl ?_
          refine j_iload F dL_lay_71 1 rfl ?_
          refine j_iald F 1 (n := 8) (f := (cI c5)) rfl i (rfl) (by omega) (by decide) dL_lay_73 ?_
          refine J.top (congrArg iI (show (cI c5) i = (((dgN c5 i) : Nat) : Int) from cI_at i1 (by omega))) ?_
          refine j_imul F dL_lay_74 ?_
          refine j_iadd F dL_lay_75 ?_
          refine J.top (congrArg iI (show ((((stN c5 (i - 1)) : Nat) : Int) + ((i : Int) * (((dgN c5 i) : Nat) : Int))) = (((stN c5 ((i + 1) - 1)) : Nat) : Int) from st_s i1)) ?_
          refine j_istore F (lv' := [(6, .int (iI (((stN c5 ((i + 1) - 1)) : Nat) : Int))), (5, .int (iI (((hpN c5 ((i + 1) - 1)) : Nat) : Int))), (7, .int (iI (i : Int))), (4, .int (iI (c5 : Int))), (3, .int (iI ((s1 : Int) - (j : Int)))), (2, .int (iI (s1 : Int))), (1, .ref q2), (0, .ref ta)]) dL_lay_76 (by decide) rfl ?_
          refine j_iinc F (lv' := [(7, .int (iI ((i : Int) + 1))), (6, .int (iI (((stN c5 ((i + 1) - 1)) : Nat) : Int))), (5, .int (iI (((hpN c5 ((i + 1) - 1)) : Nat) : Int))), (4, .int (iI (c5 : Int))), (3, .int (iI ((s1 : Int) - (j : Int)))), (2, .int (iI (s1 : Int))), (1, .ref q2), (0, .ref ta)]) dL_lay_78 2 rfl (by decide) rfl ?_
          refine j_goto F (tgt := 50) dL_lay_81 (by decide) ?_
          refine J.loc [0, 1, 2, 3, 4, 5, 6, 7] rfl ?_
          exact ih50 (i + 1) (by show 1 ≤ (i + 1) ∧ (i + 1) ≤ 8; omega) (by show 8 - (i + 1) < 8 - i; omega)

end LSMALL
