/-! ===== the two String constants' methods; Text: contracts ===== -/
section X5
def sgT (T : List Nat) (t : Nat) : Nat := if t < T.length then T.getD t 0 else 0
def txOK (T : List Nat) : Prop := T.length ≤ 60 ∧ ∀ x ∈ T, 33 ≤ x ∧ x ≤ 126
theorem sgT_lt {T : List Nat} (h : txOK T) (t : Nat) : sgT T t < 127 := by
  unfold sgT
  split
  · rename_i q
    have := h.2 _ (getD_mem q)
    omega
  · omega
theorem sgT_out {T : List Nat} {t : Nat} (h : T.length ≤ t) : sgT T t = 0 := by
  unfold sgT
  rw [if_neg (by omega)]
theorem sgT_in {T : List Nat} {t : Nat} (h : t < T.length) : sgT T t = T.getD t 0 := by
  unfold sgT
  rw [if_pos h]
def kindT (w : Int) : Int := if w = 116 then 0 else if w = 115 then 1 else if w = 109 then 2 else -1
theorem kindT_r (w : Int) : kindT w = -1 ∨ (0 ≤ kindT w ∧ kindT w ≤ 2) := by
  unfold kindT
  split
  · exact Or.inr ⟨by omega, by omega⟩
  · split
    · exact Or.inr ⟨by omega, by omega⟩
    · split
      · exact Or.inr ⟨by omega, by omega⟩
      · exact Or.inl rfl
theorem kd_hit {w : Int} {k : Nat} (hk : k < 3) (h : sB 0 k = w) : (k : Int) = kindT w := by
  subst h
  revert k
  decide
theorem kd_out {w : Int} (h : ∀ j, j < 3 → ¬ sB 0 j = w) : -1 = kindT w := by
  have h0 := h 0 (by omega)
  have h1 := h 1 (by omega)
  have h2 := h 2 (by omega)
  have e0 : sB 0 0 = 116 := rfl
  have e1 : sB 0 1 = 115 := rfl
  have e2 : sB 0 2 = 109 := rfl
  unfold kindT
  rw [if_neg (by omega), if_neg (by omega), if_neg (by omega)]
def lnkT (k : Int) : Nat := if k = 0 then 45 else if k = 1 then 47 else 43
theorem lnk_eq : ∀ k : Nat, k < 3 → sB 1 k = ((lnkT (k : Int) : Nat) : Int) := by decide
def rdS (T : List Nat) (t w : Nat) : Nat := if sgT T t = w then t + 1 else t
def rdH (T : List Nat) (t : Nat) : Int × Nat :=
  if sgT T t < 48 ∨ 57 < sgT T t then (-1, t)
  else if sgT T t = 49 then (if sgT T (t + 1) = 48 then (10, t + 2) else if sgT T (t + 1) = 49 then (11, t + 2) else (1, t + 1))
  else ((sgT T t : Int) - 48, t + 1)
def amL (k : Int) : Nat := if k = 0 then 53 else 54
theorem amL_b (k : Int) : 53 ≤ amL k ∧ amL k ≤ 54 := by unfold amL; split <;> omega
def rdA (T : List Nat) (t : Nat) (k : Int) : Int × Nat :=
  if k = 2 then rdH T t
  else if sgT T t < 49 ∨ amL k < sgT T t then (-1, t)
  else ((sgT T t : Int) - 48, t + 1)
theorem rdH_b (T : List Nat) (t : Nat) : -1 ≤ (rdH T t).1 ∧ (rdH T t).1 ≤ 11 ∧ t ≤ (rdH T t).2 ∧ (rdH T t).2 ≤ t + 2 := by
  unfold rdH
  split
  · exact ⟨by show (-1 : Int) ≤ -1; omega, by show (-1 : Int) ≤ 11; omega, by show t ≤ t; omega, by show t ≤ t + 2; omega⟩
  · rename_i q
    split
    · split
      · exact ⟨by show (-1 : Int) ≤ 10; omega, by show (10 : Int) ≤ 11; omega, by show t ≤ t + 2; omega, by show t + 2 ≤ t + 2; omega⟩
      · split
        · exact ⟨by show (-1 : Int) ≤ 11; omega, by show (11 : Int) ≤ 11; omega, by show t ≤ t + 2; omega, by show t + 2 ≤ t + 2; omega⟩
        · exact ⟨by show (-1 : Int) ≤ 1; omega, by show (1 : Int) ≤ 11; omega, by show t ≤ t + 1; omega, by show t + 1 ≤ t + 2; omega⟩
    · exact ⟨by show (-1 : Int) ≤ (sgT T t : Int) - 48; omega, by show (sgT T t : Int) - 48 ≤ 11; omega, by show t ≤ t + 1; omega, by show t + 1 ≤ t + 2; omega⟩
theorem rdA_b (T : List Nat) (t : Nat) (k : Int) : -1 ≤ (rdA T t k).1 ∧ (rdA T t k).1 ≤ 11 ∧ t ≤ (rdA T t k).2 ∧ (rdA T t k).2 ≤ t + 2 := by
  unfold rdA
  split
  · exact rdH_b T t
  · split
    · exact ⟨by show (-1 : Int) ≤ -1; omega, by show (-1 : Int) ≤ 11; omega, by show t ≤ t; omega, by show t ≤ t + 2; omega⟩
    · rename_i q
      have q2 := amL_b k
      exact ⟨by show (-1 : Int) ≤ (sgT T t : Int) - 48; omega, by show (sgT T t : Int) - 48 ≤ 11; omega, by show t ≤ t + 1; omega, by show t + 1 ≤ t + 2; omega⟩
/-- an item read: 1 or 0, where the reader stands, kind, heap, amount -/
def rdI (T : List Nat) (t : Nat) (hp am : Int) : Int × Nat × Int × Int × Int :=
  if kindT (sgT T t) = -1 then (0, t, -1, hp, am)
  else if (rdH T (t + 1)).1 = -1 then (0, (rdH T (t + 1)).2, kindT (sgT T t), -1, am)
  else if ¬ sgT T (rdH T (t + 1)).2 = lnkT (kindT (sgT T t)) then (0, (rdH T (t + 1)).2, kindT (sgT T t), (rdH T (t + 1)).1, am)
  else ((if (rdA T ((rdH T (t + 1)).2 + 1) (kindT (sgT T t))).1 = -1 then 0 else 1), (rdA T ((rdH T (t + 1)).2 + 1) (kindT (sgT T t))).2, kindT (sgT T t), (rdH T (t + 1)).1, (rdA T ((rdH T (t + 1)).2 + 1) (kindT (sgT T t))).1)

set_option maxHeartbeats 4000000 in
set_option maxRecDepth 100000 in
theorem c_J0_coder_7d493 {l : Launch} (hfl : l.flags = flags0) (D : va_G) (g : GT) (z : ZT) (i : Nat) (hi : i < 2) : CI l yJ0_coder_7d493 wsJ0_coder_7d493 1 20 0 D g z [.ref (z.2.1 i)] ([]) (fun (r9 : Int32) (u9 : Unit) => r9 = iI 0) (fun (u9 : Unit) => []) 0 0 := by
  refine CI_of hfl (own := RJ0) ⟨0, 0, 0, 0⟩ 1 20 0 (by decide +kernel) rfl rfl ⟨by decide, by decide, by decide +kernel⟩ ⟨by decide, by decide⟩ (le_ble rfl) (fun _ _ h => by rw [h]; decide) ?_
  intro p e s m below meth c A Q F ret
  change J p l e _ s m _ below meth c A D _ Q 0 0 ([]) [(0, .ref (z.2.1 i))] [] 0
  refine j_compact F (List.mem_cons_of_mem _ (List.mem_of_getElem? (i := 0) rfl)) dJ0_coder_7d493_0 ?_
  refine j_if_eq F (tgt := 13) dJ0_coder_7d493_3 (by decide) (by unfold rg; omega) (fun h9 => by exfalso; omega) (fun c3 => ?_)
  refine j_aload_n F dJ0_coder_7d493_6 rfl 0 rfl ?_
  refine j_scod F (i := i) hi (List.mem_cons_of_mem _ (List.mem_of_getElem? (i := 1) rfl)) dJ0_coder_7d493_7 ?_
  refine j_goto F (tgt := 14) dJ0_coder_7d493_10 (by decide) ?_
  exact ret _ () 0 0 _ _ dJ0_coder_7d493_14 (by decide) (by decide) rfl

set_option maxHeartbeats 4000000 in
set_option maxRecDepth 100000 in
theorem c_J0_isLatin1_aae02 {l : Launch} (hfl : l.flags = flags0) (D : va_G) (g : GT) (z : ZT) (i : Nat) (hi : i < 2) : CI l yJ0_isLatin1_aae02 wsJ0_isLatin1_aae02 1 20 0 D g z [.ref (z.2.1 i)] ([]) (fun (r9 : Int32) (u9 : Unit) => r9 = iI 1) (fun (u9 : Unit) => []) 0 0 := by
  refine CI_of hfl (own := RJ0) ⟨0, 0, 0, 0⟩ 1 20 0 (by decide +kernel) rfl rfl ⟨by decide, by decide, by decide +kernel⟩ ⟨by decide, by decide⟩ (le_ble rfl) (fun _ _ h => by rw [h]; decide) ?_
  intro p e s m below meth c A Q F ret
  change J p l e _ s m _ below meth c A D _ Q 0 0 ([]) [(0, .ref (z.2.1 i))] [] 0
  refine j_compact F (List.mem_cons_of_mem _ (List.mem_of_getElem? (i := 0) rfl)) dJ0_isLatin1_aae02_0 ?_
  refine j_if_eq F (tgt := 17) dJ0_isLatin1_aae02_3 (by decide) (by unfold rg; omega) (fun h9 => by exfalso; omega) (fun c3 => ?_)
  refine j_aload_n F dJ0_isLatin1_aae02_6 rfl 0 rfl ?_
  refine j_scod F (i := i) hi (List.mem_cons_of_mem _ (List.mem_of_getElem? (i := 1) rfl)) dJ0_isLatin1_aae02_7 ?_
  refine j_if_ne F (tgt := 17) dJ0_isLatin1_aae02_10 (by decide) (by unfold rg; omega) (fun h9 => by exfalso; omega) (fun c10 => ?_)
  refine j_iconst F dJ0_isLatin1_aae02_13 ?_
  refine j_goto F (tgt := 18) dJ0_isLatin1_aae02_14 (by decide) ?_
  exact ret _ () 0 0 _ _ dJ0_isLatin1_aae02_18 (by decide) (by decide) rfl

set_option maxHeartbeats 4000000 in
set_option maxRecDepth 100000 in
theorem c_J0_length_8abf5 {l : Launch} (hfl : l.flags = flags0) (D : va_G) (g : GT) (z : ZT) (i : Nat) (hi : i < 2) : CI l yJ0_length_8abf5 wsJ0_length_8abf5 2 40 0 D g z [.ref (z.2.1 i)] ([]) (fun (r9 : Int32) (u9 : Unit) => r9 = iI 3) (fun (u9 : Unit) => []) 0 0 := by
  refine CI_of hfl (own := RJ0) ⟨1, 0, 0, 20⟩ 2 40 0 (by decide +kernel) rfl rfl ⟨by decide, by decide, by decide +kernel⟩ ⟨by decide, by decide⟩ (le_ble rfl) (fun _ _ _ => rfl) ?_
  intro p e s m below meth c A Q F ret
  change J p l e _ s m _ below meth c A D _ Q 0 0 ([]) [(0, .ref (z.2.1 i))] [] 0
  refine j_aload_n F dJ0_length_8abf5_0 rfl 0 rfl ?_
  refine j_sval F (i := i) hi (List.mem_cons_of_mem _ (List.mem_of_getElem? (i := 0) rfl)) dJ0_length_8abf5_1 ?_
  refine j_slen F (i := i) hi dJ0_length_8abf5_4 ?_
  refine j_aload_n F dJ0_length_8abf5_5 rfl 0 rfl ?_
  refine j_callK_I F (i := i) hi (As := []) (st := [.int (iI 3)]) (c_J0_coder_7d493 hfl D g z i hi) (idx := 335) gJ0_length_8abf5_J0_coder_7d493 rfl rfl (by decide) (by decide) (le_ble rfl) ⟨by decide, by decide⟩ dJ0_length_8abf5_6 ?_
  rintro r9 u9 rfl
  refine j_ishr0 F shr0_3 dJ0_length_8abf5_9 ?_
  exact ret _ () 0 0 _ _ dJ0_length_8abf5_10 (by decide) (by decide) rfl

set_option maxHeartbeats 4000000 in
set_option maxRecDepth 100000 in
theorem c_J1_canEncode_9a6ad {l : Launch} (hfl : l.flags = flags0) (D : va_G) (g : GT) (z : ZT) (w : Int) (hw : 0 ≤ w ∧ w < 127) : CI l yJ1_canEncode_9a6ad wsJ1_canEncode_9a6ad 1 20 1 D g z [.int (iI w)] ([]) (fun (r9 : Int32) (u9 : Unit) => r9 = iI 1) (fun (u9 : Unit) => []) 0 0 := by
  refine CI_of hfl (own := RJ1) ⟨0, 0, 0, 0⟩ 1 20 1 (by decide +kernel) rfl rfl ⟨by decide, by decide, by decide +kernel⟩ ⟨by decide, by decide⟩ (le_ble rfl) (fun _ _ h => by rw [h]; decide) ?_
  intro p e s m below meth c A Q F ret
  change J p l e _ s m _ below meth c A D _ Q 0 0 ([]) [(0, .int (iI w))] [] 0
  refine j_iload_n F dJ1_canEncode_9a6ad_0 rfl 0 rfl ?_
  refine j_if_lt F (tgt := 15) dJ1_canEncode_9a6ad_1 (by decide) (by unfold rg; omega) (fun h9 => by exfalso; omega) (fun c1 => ?_)
  refine j_iload_n F dJ1_canEncode_9a6ad_4 rfl 0 rfl ?_
  refine j_sipush F dJ1_canEncode_9a6ad_5 (by decide) ?_
  refine j_icmp_gt F (tgt := 15) dJ1_canEncode_9a6ad_8 (by decide) ⟨(by unfold rg; omega), (by unfold rg; omega)⟩ (fun h9 => by exfalso; omega) (fun c8 => ?_)
  refine j_iconst F dJ1_canEncode_9a6ad_11 ?_
  refine j_goto F (tgt := 16) dJ1_canEncode_9a6ad_12 (by decide) ?_
  exact ret _ () 0 0 _ _ dJ1_canEncode_9a6ad_16 (by decide) (by decide) rfl

set_option maxHeartbeats 4000000 in
set_option maxRecDepth 100000 in
theorem c_J1_indexOfChar_4cfef {l : Launch} (hfl : l.flags = flags0) (D : va_G) (g : GT) (z : ZT) (w : Int) (hw : 0 ≤ w ∧ w < 127) : CI l yJ1_indexOfChar_4cfef wsJ1_indexOfChar_4cfef 1 25 4 D g z [.ref (z.2.2 0), .int (iI w), .int (iI 0), .int (iI 3)] ([]) (fun (r9 : Int32) (u9 : Unit) => r9 = iI (kindT w)) (fun (u9 : Unit) => []) 0 0 := by
  refine CI_of hfl (own := RJ1) ⟨0, 0, 0, 0⟩ 1 25 4 (by decide +kernel) rfl rfl ⟨by decide, by decide, by decide +kernel⟩ ⟨by decide, by decide⟩ (le_ble rfl) (fun _ _ _ => rfl) ?_
  intro p e s m below meth c A Q F ret
  change J p l e _ s m _ below meth c A D _ Q 0 0 ([]) [(0, .ref (z.2.2 0)), (1, .int (iI w)), (2, .int (iI 0)), (3, .int (iI 3))] [] 0
  refine j_iload_n F dJ1_indexOfChar_4cfef_0 rfl 1 rfl ?_
  refine j_i2b F (by omega) dJ1_indexOfChar_4cfef_1 ?_
  refine j_istore F (lv' := [(4, .int (iI w)), (0, .ref (z.2.2 0)), (1, .int (iI w)), (2, .int (iI 0)), (3, .int (iI 3))]) dJ1_indexOfChar_4cfef_2 (by decide) rfl ?_
  refine j_iload_n F dJ1_indexOfChar_4cfef_4 rfl 3 rfl ?_
  refine j_istore F (lv' := [(5, .int (iI 0)), (4, .int (iI w)), (0, .ref (z.2.2 0)), (1, .int (iI w)), (2, .int (iI 0)), (3, .int (iI 3))]) dJ1_indexOfChar_4cfef_5 (by decide) rfl ?_
  refine J.loc [0, 1, 2, 3, 4, 5] rfl ?_
  refine J_loop (σ := Nat) (fun k : Nat => k ≤ 3 ∧ ∀ j, j < k → ¬ sB 0 j = w) (fun k : Nat => 3 - k) (fun k : Nat => []) (fun k : Nat => [(5, .int (iI (k : Int))), (4, .int (iI w)), (0, .ref (z.2.2 0)), (1, .int (iI w)), (2, .int (iI 0)), (3, .int (iI 3))]) (0) (by show 0 ≤ 3 ∧ ∀ j, j < 0 → ¬ sB 0 j = w; exact ⟨by omega, fun j hj => absurd hj (Nat.not_lt_zero j)⟩) ?_
  rintro k hI ih7
  have hI : k ≤ 3 ∧ ∀ j, j < k → ¬ sB 0 j = w := hI
  obtain ⟨h1, h2⟩ := hI
  refine j_iload F dJ1_indexOfChar_4cfef_7 0 rfl ?_
  refine j_iload_n F dJ1_indexOfChar_4cfef_9 rfl 5 rfl ?_
  refine j_icmp_ge F (tgt := 31) dJ1_indexOfChar_4cfef_10 (by decide) ⟨(by unfold rg; omega), (by unfold rg; omega)⟩ (fun c10 => ?_) (fun c10 => ?_)
  · refine j_iconst F dJ1_indexOfChar_4cfef_31 ?_
    exact ret _ () 0 0 _ _ dJ1_indexOfChar_4cfef_32 (by decide) (by decide) (congrArg iI (kd_out (fun j hj => h2 j (by omega))))
  · refine j_aload_n F dJ1_indexOfChar_4cfef_13 rfl 2 rfl ?_
    refine j_iload F dJ1_indexOfChar_4cfef_14 0 rfl ?_
    refine j_sbald F (i := 0) (k := k) (by decide) (rfl) (by omega) dJ1_indexOfChar_4cfef_16 ?_
    refine j_iload F dJ1_indexOfChar_4cfef_17 1 rfl ?_
    refine j_icmp_ne F (tgt := 25) dJ1_indexOfChar_4cfef_19 (by decide) ⟨(by have := sB_r 0 (by decide) k (by omega); unfold rg; omega), (by have := sB_r 0 (by decide) k (by omega); unfold rg; omega)⟩ (fun c19 => ?_) (fun c19 => ?_)
    · refine j_iinc F (lv' := [(5, .int (iI ((k : Int) + 1))), (4, .int (iI w)), (0, .ref (z.2.2 0)), (1, .int (iI w)), (2, .int (iI 0)), (3, .int (iI 3))]) dJ1_indexOfChar_4cfef_25 0 rfl (by decide) rfl ?_
      refine j_goto F (tgt := 7) dJ1_indexOfChar_4cfef_28 (by decide) ?_
      refine J.loc [0, 1, 2, 3, 4, 5] rfl ?_
      exact ih7 (k + 1) (by show (k + 1) ≤ 3 ∧ ∀ j, j < (k + 1) → ¬ sB 0 j = w; exact ⟨by omega, fun j hj => by rcases Nat.lt_or_ge j k with q | q; exact h2 j q; exact (show j = k by omega) ▸ c19⟩) (by show 3 - (k + 1) < 3 - k; omega)
    · refine j_iload F dJ1_indexOfChar_4cfef_22 0 rfl ?_
      exact ret _ () 0 0 _ _ dJ1_indexOfChar_4cfef_24 (by decide) (by decide) (congrArg iI (kd_hit (by omega) c19))

set_option maxHeartbeats 4000000 in
set_option maxRecDepth 100000 in
theorem c_J1_indexOf_4cfef {l : Launch} (hfl : l.flags = flags0) (D : va_G) (g : GT) (z : ZT) (w : Int) (hw : 0 ≤ w ∧ w < 127) : CI l yJ1_indexOf_4cfef wsJ1_indexOf_4cfef 2 63 4 D g z [.ref (z.2.2 0), .int (iI w), .int (iI 0), .int (iI 3)] ([]) (fun (r9 : Int32) (u9 : Unit) => r9 = iI (kindT w)) (fun (u9 : Unit) => []) 0 0 := by
  refine CI_of hfl (own := RJ1) ⟨1, 0, 0, 40⟩ 2 63 4 (by decide +kernel) rfl rfl ⟨by decide, by decide, by decide +kernel⟩ ⟨by decide, by decide⟩ (le_ble rfl) (fun _ _ _ => rfl) ?_
  intro p e s m below meth c A Q F ret
  change J p l e _ s m _ below meth c A D _ Q 0 0 ([]) [(0, .ref (z.2.2 0)), (1, .int (iI w)), (2, .int (iI 0)), (3, .int (iI 3))] [] 0
  refine j_iload_n F dJ1_indexOf_4cfef_0 rfl 1 rfl ?_
  refine j_callS_I F (As := [.int (iI w)]) (wr := []) (st := []) (c_J1_canEncode_9a6ad hfl D g z w hw) (idx := 88) gJ1_indexOf_4cfef_J1_canEncode_9a6ad rfl [] [] rfl rfl (by decide) (by decide) (by decide)  (by decide) (by decide) (le_ble rfl) ⟨by decide, by decide⟩ dJ1_indexOf_4cfef_1 ?_
  rintro r9 u9 rfl
  refine J.wsEq (ws2 := []) rfl ?_
  refine j_if_ne F (tgt := 9) dJ1_indexOf_4cfef_4 (by decide) (by unfold rg; omega) (fun c4 => ?_) (fun h9 => by exfalso; omega)
  refine j_iload_n F dJ1_indexOf_4cfef_9 rfl 2 rfl ?_
  refine j_iconst F dJ1_indexOf_4cfef_10 ?_
  refine j_mmax F (List.mem_cons_of_mem _ (List.mem_of_getElem? (i := 0) rfl)) (List.mem_cons_of_mem _ (List.mem_of_getElem? (i := 1) rfl)) (List.mem_cons_of_mem _ (List.mem_of_getElem? (i := 2) rfl)) (List.mem_cons_of_mem _ (List.mem_of_getElem? (i := 3) rfl)) ⟨(by unfold rg; omega), (by unfold rg; omega)⟩ (le_ble rfl) (by decide) (by decide) (by decide) (by decide) dJ1_indexOf_4cfef_11 ?_
  refine J.top (congrArg iI (show (max 0 0) = 0 from by omega)) ?_
  refine j_istore_n F (lv' := [(2, .int (iI 0)), (0, .ref (z.2.2 0)), (1, .int (iI w)), (3, .int (iI 3))]) dJ1_indexOf_4cfef_14 rfl (by decide) rfl ?_
  refine j_iload_n F dJ1_indexOf_4cfef_15 rfl 3 rfl ?_
  refine j_aload_n F dJ1_indexOf_4cfef_16 rfl 1 rfl ?_
  refine j_slen F (i := 0) (by decide) dJ1_indexOf_4cfef_17 ?_
  refine j_mmin F (List.mem_cons_of_mem _ (List.mem_of_getElem? (i := 4) rfl)) (List.mem_cons_of_mem _ (List.mem_of_getElem? (i := 5) rfl)) (List.mem_cons_of_mem _ (List.mem_of_getElem? (i := 2) rfl)) (List.mem_cons_of_mem _ (List.mem_of_getElem? (i := 6) rfl)) ⟨(by unfold rg; omega), (by unfold rg; omega)⟩ (le_ble rfl) (by decide) (by decide) (by decide) (by decide) dJ1_indexOf_4cfef_18 ?_
  refine J.top (congrArg iI (show (min 3 3) = 3 from by omega)) ?_
  refine j_istore_n F (lv' := [(3, .int (iI 3)), (2, .int (iI 0)), (0, .ref (z.2.2 0)), (1, .int (iI w))]) dJ1_indexOf_4cfef_21 rfl (by decide) rfl ?_
  refine j_iload_n F dJ1_indexOf_4cfef_22 rfl 1 rfl ?_
  refine j_iload_n F dJ1_indexOf_4cfef_23 rfl 0 rfl ?_
  refine j_icmp_lt F (tgt := 29) dJ1_indexOf_4cfef_24 (by decide) ⟨(by unfold rg; omega), (by unfold rg; omega)⟩ (fun c24 => ?_) (fun h9 => by exfalso; omega)
  refine j_aload_n F dJ1_indexOf_4cfef_29 rfl 2 rfl ?_
  refine j_iload_n F dJ1_indexOf_4cfef_30 rfl 3 rfl ?_
  refine j_iload_n F dJ1_indexOf_4cfef_31 rfl 1 rfl ?_
  refine j_iload_n F dJ1_indexOf_4cfef_32 rfl 0 rfl ?_
  refine j_callS_I F (As := [.ref (z.2.2 0), .int (iI w), .int (iI 0), .int (iI 3)]) (wr := []) (st := []) (c_J1_indexOfChar_4cfef hfl D g z w hw) (idx := 95) gJ1_indexOf_4cfef_J1_indexOfChar_4cfef rfl [] [] rfl rfl (by decide) (by decide) (by decide)  (by decide) (by decide) (le_ble rfl) ⟨by decide, by decide⟩ dJ1_indexOf_4cfef_33 ?_
  rintro r9 u9 rfl
  refine J.wsEq (ws2 := []) rfl ?_
  exact ret _ () 0 0 _ _ dJ1_indexOf_4cfef_36 (by decide) (by decide) rfl

set_option maxHeartbeats 4000000 in
set_option maxRecDepth 100000 in
theorem c_J0_indexOf_7cf53 {l : Launch} (hfl : l.flags = flags0) (D : va_G) (g : GT) (z : ZT) (w : Int) (hw : 0 ≤ w ∧ w < 127) : CI l yJ0_indexOf_7cf53 wsJ0_indexOf_7cf53 3 85 2 D g z [.ref (z.2.1 0), .int (iI w), .int (iI 0)] ([]) (fun (r9 : Int32) (u9 : Unit) => r9 = iI (kindT w)) (fun (u9 : Unit) => []) 0 0 := by
  refine CI_of hfl (own := RJ0) ⟨2, 0, 0, 63⟩ 3 85 2 (by decide +kernel) rfl rfl ⟨by decide, by decide, by decide +kernel⟩ ⟨by decide, by decide⟩ (le_ble rfl) (fun _ _ _ => rfl) ?_
  intro p e s m below meth c A Q F ret
  change J p l e _ s m _ below meth c A D _ Q 0 0 ([]) [(0, .ref (z.2.1 0)), (1, .int (iI w)), (2, .int (iI 0))] [] 0
  refine j_aload_n F dJ0_indexOf_7cf53_0 rfl 0 rfl ?_
  refine j_callK_I F (i := 0) (by decide) (As := []) (st := []) (c_J0_isLatin1_aae02 hfl D g z 0 (by decide)) (idx := 492) gJ0_indexOf_7cf53_J0_isLatin1_aae02 rfl rfl (by decide) (by decide) (le_ble rfl) ⟨by decide, by decide⟩ dJ0_indexOf_7cf53_1 ?_
  rintro r9 u9 rfl
  refine j_if_eq F (tgt := 23) dJ0_indexOf_7cf53_4 (by decide) (by unfold rg; omega) (fun h9 => by exfalso; omega) (fun c4 => ?_)
  refine j_aload_n F dJ0_indexOf_7cf53_7 rfl 0 rfl ?_
  refine j_sval F (i := 0) (by decide) (List.mem_cons_of_mem _ (List.mem_append_left _ (List.mem_of_getElem? (l := wsJ0_indexOf_7cf53_r1) (i := 0) rfl))) dJ0_indexOf_7cf53_8 ?_
  refine j_iload_n F dJ0_indexOf_7cf53_11 rfl 1 rfl ?_
  refine j_iload_n F dJ0_indexOf_7cf53_12 rfl 2 rfl ?_
  refine j_aload_n F dJ0_indexOf_7cf53_13 rfl 0 rfl ?_
  refine j_callK_I F (i := 0) (by decide) (As := []) (st := [.int (iI 0), .int (iI w), .ref (z.2.2 0)]) (c_J0_length_8abf5 hfl D g z 0 (by decide)) (idx := 505) gJ0_indexOf_7cf53_J0_length_8abf5 rfl rfl (by decide) (by decide) (le_ble rfl) ⟨by decide, by decide⟩ dJ0_indexOf_7cf53_14 ?_
  rintro r9 u9 rfl
  refine j_callS_I F (As := [.ref (z.2.2 0), .int (iI w), .int (iI 0), .int (iI 3)]) (wr := []) (st := []) (c_J1_indexOf_4cfef hfl D g z w hw) (idx := 637) gJ0_indexOf_7cf53_J1_indexOf_4cfef rfl [] [] rfl rfl (by decide) (by decide) (by decide)  (by decide) (by decide) (le_ble rfl) ⟨by decide, by decide⟩ dJ0_indexOf_7cf53_17 ?_
  rintro r9 u9 rfl
  refine J.wsEq (ws2 := []) rfl ?_
  refine j_goto F (tgt := 36) dJ0_indexOf_7cf53_20 (by decide) ?_
  exact ret _ () 0 0 _ _ dJ0_indexOf_7cf53_36 (by decide) (by decide) rfl

set_option maxHeartbeats 4000000 in
set_option maxRecDepth 100000 in
theorem c_J0_indexOf_0f7a4 {l : Launch} (hfl : l.flags = flags0) (D : va_G) (g : GT) (z : ZT) (w : Int) (hw : 0 ≤ w ∧ w < 127) : CI l yJ0_indexOf_0f7a4 wsJ0_indexOf_0f7a4 4 106 1 D g z [.ref (z.2.1 0), .int (iI w)] ([]) (fun (r9 : Int32) (u9 : Unit) => r9 = iI (kindT w)) (fun (u9 : Unit) => []) 0 0 := by
  refine CI_of hfl (own := RJ0) ⟨3, 0, 0, 85⟩ 4 106 1 (by decide +kernel) rfl rfl ⟨by decide, by decide, by decide +kernel⟩ ⟨by decide, by decide⟩ (le_ble rfl) (fun _ _ _ => rfl) ?_
  intro p e s m below meth c A Q F ret
  change J p l e _ s m _ below meth c A D _ Q 0 0 ([]) [(0, .ref (z.2.1 0)), (1, .int (iI w))] [] 0
  refine j_aload_n F dJ0_indexOf_0f7a4_0 rfl 0 rfl ?_
  refine j_iload_n F dJ0_indexOf_0f7a4_1 rfl 1 rfl ?_
  refine j_iconst F dJ0_indexOf_0f7a4_2 ?_
  refine j_callK_I F (i := 0) (by decide) (As := [.int (iI w), .int (iI 0)]) (st := []) (c_J0_indexOf_7cf53 hfl D g z w hw) (idx := 633) gJ0_indexOf_0f7a4_J0_indexOf_7cf53 rfl rfl (by decide) (by decide) (le_ble rfl) ⟨by decide, by decide⟩ dJ0_indexOf_0f7a4_3 ?_
  rintro r9 u9 rfl
  exact ret _ () 0 0 _ _ dJ0_indexOf_0f7a4_6 (by decide) (by decide) rfl

set_option maxHeartbeats 4000000 in
set_option maxRecDepth 100000 in
theorem c_J3_checkIndex_8e157 {l : Launch} (hfl : l.flags = flags0) (D : va_G) (g : GT) (z : ZT) (x y9 : Int) (sq : Option Nat) (hx : 0 ≤ x ∧ x < y9 ∧ y9 < 100) : CI l yJ3_checkIndex_8e157 wsJ3_checkIndex_8e157 1 22 3 D g z [.int (iI x), .int (iI y9), va_rf sq] ([]) (fun (r9 : Int32) (u9 : Unit) => True) (fun (u9 : Unit) => []) 0 0 := by
  refine CI_of hfl (own := RJ3) ⟨0, 0, 0, 0⟩ 1 22 3 (by decide +kernel) rfl rfl ⟨by decide, by decide, by decide +kernel⟩ ⟨by decide, by decide⟩ (by cases sq <;> exact le_ble rfl) (fun _ _ _ => rfl) ?_
  intro p e s m below meth c A Q F ret
  change J p l e _ s m _ below meth c A D _ Q 0 0 ([]) [(0, .int (iI x)), (1, .int (iI y9)), (2, va_rf sq)] [] 0
  refine j_iload_n F dJ3_checkIndex_8e157_0 rfl 0 rfl ?_
  refine j_if_lt F (tgt := 9) dJ3_checkIndex_8e157_1 (by decide) (by unfold rg; omega) (fun h9 => by exfalso; omega) (fun c1 => ?_)
  refine j_iload_n F dJ3_checkIndex_8e157_4 rfl 0 rfl ?_
  refine j_iload_n F dJ3_checkIndex_8e157_5 rfl 1 rfl ?_
  refine j_icmp_lt F (tgt := 16) dJ3_checkIndex_8e157_6 (by decide) ⟨(by unfold rg; omega), (by unfold rg; omega)⟩ (fun c6 => ?_) (fun h9 => by exfalso; omega)
  refine j_iload_n F dJ3_checkIndex_8e157_16 rfl 0 rfl ?_
  exact ret _ () 0 0 _ _ dJ3_checkIndex_8e157_17 (by decide) (by decide) trivial

set_option maxHeartbeats 4000000 in
set_option maxRecDepth 100000 in
theorem c_J0_checkIndex_df160 {l : Launch} (hfl : l.flags = flags0) (D : va_G) (g : GT) (z : ZT) (x y9 : Int) (hx : 0 ≤ x ∧ x < y9 ∧ y9 < 100) : CV l yJ0_checkIndex_df160 wsJ0_checkIndex_df160 2 43 2 D g z [.int (iI x), .int (iI y9)] ([]) (fun (u9 : Unit) => True) (fun (u9 : Unit) => []) 0 0 := by
  refine CV_of hfl (own := RJ0) ⟨1, 0, 0, 22⟩ 2 43 2 (by decide +kernel) rfl rfl ⟨by decide, by decide, by decide +kernel⟩ ⟨by decide, by decide⟩ (le_ble rfl) ?_
  intro p e s m below meth c A Q F hin ret
  change J p l e _ s m _ below meth c A D _ Q 0 0 ([]) [(0, .int (iI x)), (1, .int (iI y9))] [] 0
  refine j_iload_n F dJ0_checkIndex_df160_0 rfl 0 rfl ?_
  refine j_iload_n F dJ0_checkIndex_df160_1 rfl 1 rfl ?_
  refine j_siob F (List.mem_cons_of_mem _ (List.mem_of_getElem? (i := 0) rfl)) dJ0_checkIndex_df160_2 (fun sq9 => ?_)
  refine j_callS_I F (As := [.int (iI x), .int (iI y9), va_rf sq9]) (wr := []) (st := []) (c_J3_checkIndex_8e157 hfl D g z x y9 sq9 hx) (idx := 1059) gJ0_checkIndex_df160_J3_checkIndex_8e157 rfl [] [] rfl rfl (by decide) (by decide) (by decide)  (by decide) (by decide) (le_ble rfl) ⟨by decide, by decide⟩ dJ0_checkIndex_df160_5 ?_
  rintro r9 u9 h9
  refine J.wsEq (ws2 := []) rfl ?_
  refine j_pop F dJ0_checkIndex_df160_8 rfl ?_
  exact ret () 0 0 _ _ dJ0_checkIndex_df160_9 (by decide) (by decide) trivial

set_option maxHeartbeats 4000000 in
set_option maxRecDepth 100000 in
theorem c_J1_charAt_3b067 {l : Launch} (hfl : l.flags = flags0) (D : va_G) (g : GT) (z : ZT) (k : Nat) (hk : k < 3) : CI l yJ1_charAt_3b067 wsJ1_charAt_3b067 3 64 2 D g z [.ref (z.2.2 1), .int (iI (k : Int))] ([]) (fun (r9 : Int32) (u9 : Unit) => r9 = iI (sB 1 k)) (fun (u9 : Unit) => []) 0 0 := by
  refine CI_of hfl (own := RJ1) ⟨2, 0, 0, 43⟩ 3 64 2 (by decide +kernel) rfl rfl ⟨by decide, by decide, by decide +kernel⟩ ⟨by decide, by decide⟩ (le_ble rfl) (fun _ _ h => by rw [h]; exact (nar_c0 (by have := sB_r 1 (by decide) k hk; omega)).1) ?_
  intro p e s m below meth c A Q F ret
  change J p l e _ s m _ below meth c A D _ Q 0 0 ([]) [(0, .ref (z.2.2 1)), (1, .int (iI (k : Int)))] [] 0
  refine j_iload_n F dJ1_charAt_3b067_0 rfl 1 rfl ?_
  refine j_aload_n F dJ1_charAt_3b067_1 rfl 0 rfl ?_
  refine j_slen F (i := 1) (by decide) dJ1_charAt_3b067_2 ?_
  refine j_callS_V F (As := [.int (iI (k : Int)), .int (iI 3)]) (wr := []) (st := []) (c_J0_checkIndex_df160 hfl D g z (k : Int) 3 (by omega)) (idx := 9) gJ1_charAt_3b067_J0_checkIndex_df160 rfl [] [] rfl rfl (by decide) (by decide) (by decide)  (by decide) (by decide) (le_ble rfl) ⟨by decide, by decide⟩ dJ1_charAt_3b067_3 ?_
  rintro u9 h9
  refine J.wsEq (ws2 := []) rfl ?_
  refine j_aload_n F dJ1_charAt_3b067_6 rfl 0 rfl ?_
  refine j_iload_n F dJ1_charAt_3b067_7 rfl 1 rfl ?_
  refine j_sbald F (i := 1) (k := k) (by decide) (rfl) (by omega) dJ1_charAt_3b067_8 ?_
  refine j_sipush F dJ1_charAt_3b067_9 (by decide) ?_
  refine j_iand F (v := (iI (sB 1 k))) (and255i (sB_r 1 (by decide) k hk)) dJ1_charAt_3b067_12 ?_
  refine j_i2c F (v := iI (sB 1 k)) (i2c_s (by have := sB_r 1 (by decide) k hk; omega)) dJ1_charAt_3b067_13 ?_
  exact ret _ () 0 0 _ _ dJ1_charAt_3b067_14 (by decide) (by decide) rfl

set_option maxHeartbeats 4000000 in
set_option maxRecDepth 100000 in
theorem c_J0_charAt_5068e {l : Launch} (hfl : l.flags = flags0) (D : va_G) (g : GT) (z : ZT) (k : Nat) (hk : k < 3) : CI l yJ0_charAt_5068e wsJ0_charAt_5068e 4 85 1 D g z [.ref (z.2.1 1), .int (iI (k : Int))] ([]) (fun (r9 : Int32) (u9 : Unit) => r9 = iI (sB 1 k)) (fun (u9 : Unit) => []) 0 0 := by
  refine CI_of hfl (own := RJ0) ⟨3, 0, 0, 64⟩ 4 85 1 (by decide +kernel) rfl rfl ⟨by decide, by decide, by decide +kernel⟩ ⟨by decide, by decide⟩ (le_ble rfl) (fun _ _ h => by rw [h]; exact (nar_c0 (by have := sB_r 1 (by decide) k hk; omega)).1) ?_
  intro p e s m below meth c A Q F ret
  change J p l e _ s m _ below meth c A D _ Q 0 0 ([]) [(0, .ref (z.2.1 1)), (1, .int (iI (k : Int)))] [] 0
  refine j_aload_n F dJ0_charAt_5068e_0 rfl 0 rfl ?_
  refine j_callK_I F (i := 1) (by decide) (As := []) (st := []) (c_J0_isLatin1_aae02 hfl D g z 1 (by decide)) (idx := 492) gJ0_charAt_5068e_J0_isLatin1_aae02 rfl rfl (by decide) (by decide) (le_ble rfl) ⟨by decide, by decide⟩ dJ0_charAt_5068e_1 ?_
  rintro r9 u9 rfl
  refine j_if_eq F (tgt := 16) dJ0_charAt_5068e_4 (by decide) (by unfold rg; omega) (fun h9 => by exfalso; omega) (fun c4 => ?_)
  refine j_aload_n F dJ0_charAt_5068e_7 rfl 0 rfl ?_
  refine j_sval F (i := 1) (by decide) (List.mem_cons_of_mem _ (List.mem_append_left _ (List.mem_of_getElem? (l := wsJ0_charAt_5068e_r1) (i := 0) rfl))) dJ0_charAt_5068e_8 ?_
  refine j_iload_n F dJ0_charAt_5068e_11 rfl 1 rfl ?_
  refine j_callS_I F (As := [.ref (z.2.2 1), .int (iI (k : Int))]) (wr := []) (st := []) (c_J1_charAt_3b067 hfl D g z k hk) (idx := 495) gJ0_charAt_5068e_J1_charAt_3b067 rfl [] [] rfl rfl (by decide) (by decide) (by decide)  (by decide) (by decide) (le_ble rfl) ⟨by decide, by decide⟩ dJ0_charAt_5068e_12 ?_
  rintro r9 u9 rfl
  refine J.wsEq (ws2 := []) rfl ?_
  exact ret _ () 0 0 _ _ dJ0_charAt_5068e_15 (by decide) (by decide) rfl

end X5