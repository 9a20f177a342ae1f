/-! ===== Solution: contracts ===== -/
section X2
theorem lb_bv (n : Nat) : (lN n).toBitVec = BitVec.ofNat 64 n := rfl
theorem lb_or (a b : Nat) : lN a ||| lN b = lN (a ||| b) := by
  apply Int64.toBitVec_inj.mp
  rw [Int64.toBitVec_or, lb_bv, lb_bv, lb_bv]
  apply BitVec.eq_of_getLsbD_eq
  intro i hi
  simp [BitVec.getLsbD_ofNat, Nat.testBit_or, hi]
theorem lb_one : ∀ k : Nat, k < 63 → (1 : Int64) <<< ((iI (k : Int)).toInt64 &&& 63) = lN (2 ^ k) := by decide +kernel
theorem lb_s : ∀ k : Nat, k < 64 → (((iI (k : Int)).toInt64 &&& 63).toBitVec.smod 64).toNat = k := by decide +kernel
theorem lb_bit {B k : Nat} (hk : k < 64) : (lN B >>> ((iI (k : Int)).toInt64 &&& 63)) &&& 1 = 1 ↔ B.testBit k = true := by
  rw [← Int64.toBitVec_inj, Int64.toBitVec_and, Int64.toBitVec_shiftRight]
  show ((lN B).toBitVec.sshiftRight (((iI (k : Int)).toInt64 &&& 63).toBitVec.smod 64).toNat &&& 1#64) = 1#64 ↔ _
  rw [lb_s k hk, lb_bv]
  have e0 : ((BitVec.ofNat 64 B).sshiftRight k).getLsbD 0 = B.testBit k := by
    rw [BitVec.getLsbD_sshiftRight, if_pos (by omega), Nat.add_zero, BitVec.getLsbD_ofNat]
    simp [hk]
  constructor
  · intro h
    have t := congrArg (fun x => x.getLsbD 0) h
    simp only [BitVec.getLsbD_and, e0] at t
    simpa using t
  · intro h
    apply BitVec.eq_of_getLsbD_eq
    intro i hi
    cases i with
    | zero => rw [BitVec.getLsbD_and, e0, h]; rfl
    | succ i => rw [BitVec.getLsbD_and]; simp
def v0 : VT := (0, 0, 0, 0)
theorem mxL_app (a : List VT) (v : VT) : mxL (a ++ [v]) = max (mxL a) (v.2.2.1 + 1) := by
  induction a with
  | nil => show max (v.2.2.1 + 1) 0 = max 0 (v.2.2.1 + 1); omega
  | cons w a ih => rw [List.cons_append, mxL, mxL, ih]; omega
theorem mnL_app (a : List VT) (v : VT) : mnL (a ++ [v]) = min (mnL a) (v.2.2.2 + 1) := by
  induction a with
  | nil => show min (v.2.2.2 + 1) 1000 = min 1000 (v.2.2.2 + 1); omega
  | cons w a ih => rw [List.cons_append, mnL, mnL, ih]; omega
theorem wnL_app (a : List VT) (v : VT) : wnL (a ++ [v]) = if wnL a = 1 then 1 else if v.2.1 = 0 then 1 else 0 := by
  induction a with
  | nil => rfl
  | cons w a ih =>
    rw [List.cons_append, wnL, wnL, ih]
    by_cases q : w.2.1 = 0
    · rw [if_pos q, if_pos q, if_pos rfl]
    · rw [if_neg q, if_neg q]
theorem take_s {α : Type} (d : α) {l : List α} {j : Nat} (h : j < l.length) : l.take (j + 1) = l.take j ++ [l.getD j d] := by
  rw [List.take_add_one, List.getD_eq_getElem?_getD, List.getElem?_eq_getElem h]
  rfl
/-- what a loop over the positions behind holds when j of them are seen: bits, won -/
def bagI (vs : List VT) (j B : Nat) (wo : Int) : Prop := j ≤ vs.length ∧ B < 2 ^ 24 ∧ (∀ x, B.testBit x = true ↔ x ∈ (vs.take j).map (fun w => w.1)) ∧ wo = ((wnL (vs.take j) : Nat) : Int)
theorem bagI_0 (vs : List VT) : bagI vs 0 0 0 := ⟨Nat.zero_le _, by decide, fun x => by simp, rfl⟩
theorem bagI_s {vs : List VT} {j B : Nat} {wo : Int} (h : bagI vs j B wo) (hj : j < vs.length) (hb : (vs.getD j v0).1 ≤ 23) {wo2 : Int} (hw : wo2 = if wo = 1 then 1 else if (vs.getD j v0).2.1 = 0 then 1 else 0) : bagI vs (j + 1) (B ||| 2 ^ (vs.getD j v0).1) wo2 := by
  obtain ⟨h1, h2, h3, h4⟩ := h
  refine ⟨hj, Nat.or_lt_two_pow h2 (Nat.pow_lt_pow_right (by decide) (by omega)), fun x => ?_, ?_⟩
  · rw [take_s v0 hj, List.map_append, List.mem_append, Nat.testBit_or, Bool.or_eq_true, h3, Nat.testBit_two_pow]
    simp [eq_comm]
  · rw [take_s v0 hj, wnL_app, hw, h4]
    by_cases q : wnL (vs.take j) = 1
    · rw [if_pos q, if_pos (by omega)]; rfl
    · rw [if_neg q, if_neg (by omega)]
      split <;> rfl
theorem bagI_mem {vs : List VT} {B : Nat} {wo : Int} (h : bagI vs vs.length B wo) : ∀ x, B.testBit x = true ↔ x ∈ vs.map (fun w => w.1) := by
  have h3 := h.2.2.1
  rw [List.take_length] at h3
  exact h3
def entI (vs : List VT) (j : Nat) (mo fe : Int) : Prop := mo + 1 = max 1 ((mxL (vs.take j) : Nat) : Int) ∧ min (fe + 1) 1000 = ((mnL (vs.take j) : Nat) : Int) ∧ fe ≤ 1000 ∧ 0 ≤ fe ∧ 0 ≤ mo ∧ mo ≤ 1000
theorem entI_0 (vs : List VT) : entI vs 0 0 1000 := by
  refine ⟨?_, ?_, by omega, by omega, by omega, by omega⟩
  · show (0 : Int) + 1 = max 1 ((0 : Nat) : Int); omega
  · show min ((1000 : Int) + 1) 1000 = ((1000 : Nat) : Int); omega
theorem entI_s {vs : List VT} {j : Nat} {mo fe : Int} (h : entI vs j mo fe) (hj : j < vs.length) (hb : (vs.getD j v0).2.2.1 ≤ 23 ∧ (vs.getD j v0).2.2.2 ≤ 23) : entI vs (j + 1) (max mo (((vs.getD j v0).2.2.1 : Nat) : Int)) (min fe (((vs.getD j v0).2.2.2 : Nat) : Int)) := by
  obtain ⟨h1, h2, h3, h4, h5, h6⟩ := h
  refine ⟨?_, ?_, by omega, by omega, by omega, by omega⟩
  · rw [take_s v0 hj, mxL_app]; omega
  · rw [take_s v0 hj, mnL_app]; omega
theorem getD_memV {vs : List VT} {j : Nat} (hj : j < vs.length) : vs.getD j v0 ∈ vs := by
  rw [List.getD_eq_getElem?_getD, List.getElem?_eq_getElem hj]
  exact List.getElem_mem hj
theorem entI_e {vs : List VT} {mo fe : Int} (h : entI vs vs.length mo fe) (hn : vs ≠ []) (hb : ∀ v ∈ vs, v.2.2.2 ≤ 23) : mo + 1 = (((combV vs).2.2.1 : Nat) : Int) ∧ fe + 1 = (((combV vs).2.2.2 : Nat) : Int) := by
  obtain ⟨h1, h2, -⟩ := h
  rw [List.take_length] at h1 h2
  obtain ⟨v, l, e⟩ := List.exists_cons_of_ne_nil hn
  have hm : v ∈ vs := by rw [e]; exact List.mem_cons_self
  have a1 := le_mxL hm
  have a2 := mnL_le hm
  have a3 := hb v hm
  rw [combV_c hn]
  dsimp only
  omega
theorem bagI_e {vs : List VT} {B : Nat} {wo : Int} (h : bagI vs vs.length B wo) (hn : vs ≠ []) : wo = (((combV vs).2.1 : Nat) : Int) ∧ (combV vs).1 = mexF (vs.map (fun w => w.1)) 63 0 := by
  have h4 := h.2.2.2
  rw [List.take_length] at h4
  rw [combV_c hn]
  exact ⟨h4, rfl⟩
theorem wo_01 {vs : List VT} {j B : Nat} {wo : Int} (h : bagI vs j B wo) : wo = 0 ∨ wo = 1 := by
  have h4 := h.2.2.2
  have := wnL_01 (vs.take j)
  omega
theorem mex_end {bl : List Nat} {j : Nat} (h2 : mexF bl (63 - j) j = mexF bl 63 0) (h : j = 63 ∨ ¬ j ∈ bl) (hj : j ≤ 63) : (j : Int) = ((mexF bl 63 0 : Nat) : Int) := by
  rw [← h2]
  congr 1
  by_cases q : j = 63
  · subst q; rfl
  · obtain ⟨k, e⟩ : ∃ k, 63 - j = k + 1 := ⟨62 - j, by omega⟩
    rw [e]
    show j = if j ∈ bl then _ else j
    rw [if_neg (by rcases h with h | h <;> first | exact h | exact absurd h q)]
theorem mex_step {bl : List Nat} {j : Nat} (h1 : j < 63) (h2 : mexF bl (63 - j) j = mexF bl 63 0) (h : j ∈ bl) : mexF bl (63 - (j + 1)) (j + 1) = mexF bl 63 0 := by
  rw [← h2]
  obtain ⟨k, e⟩ : ∃ k, 63 - j = k + 1 := ⟨62 - j, by omega⟩
  rw [e, show 63 - (j + 1) = k by omega]
  show _ = if j ∈ bl then mexF bl k (j + 1) else j
  rw [if_pos h]
/-- the tables hold the value v at the slot q -/
def tabAt (Nu Lo Sh Wo : NF) (q : Nat) (v : VT) : Prop := Nu q = ((v.1 : Nat) : Int) ∧ Lo q = ((v.2.2.1 : Nat) : Int) ∧ Sh q = ((v.2.2.2 : Nat) : Int) ∧ Wo q = ((v.2.1 : Nat) : Int)
/-- won at a slot -/
def wonI (nu wo nm : Int) : Int := if nm = 0 then wo else if nu = 0 then 0 else 1
theorem wonI_01 {nu wo nm : Int} (h : wo = 0 ∨ wo = 1) : wonI nu wo nm = 0 ∨ wonI nu wo nm = 1 := by unfold wonI; split <;> (try split) <;> omega
theorem nar_01 {r : Int32} {v : Int} (h : r = iI v) (hv : v = 0 ∨ v = 1) : narrow .boolean (.int r) = .int r := by rw [h]; exact nar_zb hv

set_option maxHeartbeats 4000000 in
set_option maxRecDepth 100000 in
theorem c_X2_init {l : Launch} (hfl : l.flags = flags0) (D : va_G) (g : GT) (z : ZT) (a : Nat) : CV l yX2_init wsX2_init 2 40 0 D g z [.ref a] ([(a, .inr (2, [.null, .null, .null, .null, .int (iI 0)]))]) (fun (u9 : Nat × Nat × Nat × Nat) => True) (fun (u9 : Nat × Nat × Nat × Nat) => soC g a u9.1 u9.2.1 u9.2.2.1 u9.2.2.2 0 (fun _ => 0) (fun _ => 0) (fun _ => 0) (nup (fun _ => 0) 0 1)) 4 4096 := by
  refine CV_of hfl (own := RX2) ⟨1, 4, 4096, 20⟩ 2 40 0 (by decide +kernel) rfl rfl ⟨by decide, by decide, by decide +kernel⟩ ⟨by decide, by decide⟩ (le_ble rfl) ?_
  intro p e s m below meth c A Q F hin ret
  change J p l e _ s m _ below meth c A D _ Q 0 0 ([(a, .inr (2, [.null, .null, .null, .null, .int (iI 0)]))]) [(0, .ref a)] [] 0
  refine j_aload_n F dX2_init_0 rfl 0 rfl ?_
  refine j_objInit F (List.mem_cons_of_mem _ (List.mem_append_left _ (List.mem_of_getElem? (i := 0) rfl))) (List.mem_cons_of_mem _ (List.mem_append_left _ (List.mem_of_getElem? (i := 1) rfl))) (List.mem_cons_of_mem _ (List.mem_append_left _ (List.mem_of_getElem? (i := 2) rfl))) (le_ble rfl) (by decide) (by decide) dX2_init_1 ?_
  refine j_aload_n F dX2_init_4 rfl 0 rfl ?_
  refine j_sipush F dX2_init_5 (by decide) ?_
  refine j_newa_i F (ws' := fun q8 => [(a, .inr (2, [.null, .null, .null, .null, .int (iI 0)]))] ++ ([(q8, iR g 1024 (fun _ => 0))])) 1024 rfl (by decide) (List.mem_cons_of_mem _ (List.mem_append_left _ (List.mem_of_getElem? (i := 3) rfl))) (by decide) (by decide) dX2_init_8 (fun _ => rfl) (fun q8 => ?_)
  refine j_putF F hin (ref := "CairnGame$Solution") (C := RX2) (T := TX2) (N := 5) (ci := 2) (index := 9) (ty := (.array .int)) (ws' := [(a, .inr (2, [.ref q8, .null, .null, .null, .int (iI 0)]))] ++ ([(q8, iR g 1024 (fun _ => 0))])) (fun w h => (List.mem_cons_of_mem _ (List.mem_append_right _ h))) tyX2 tyX2_ok nmX2 0 rfl rfl 0 (by decide) (List.mem_cons_of_mem _ (List.mem_append_left _ (List.mem_of_getElem? (i := 4) rfl))) rfl rfl rfl rfl rfl rfl (lt_ble rfl) rfl dX2_init_10 ?_
  refine j_aload_n F dX2_init_13 rfl 0 rfl ?_
  refine j_sipush F dX2_init_14 (by decide) ?_
  refine j_newa_i F (ws' := fun q17 => [(a, .inr (2, [.ref q8, .null, .null, .null, .int (iI 0)]))] ++ ([(q8, iR g 1024 (fun _ => 0))] ++ ([(q17, iR g 1024 (fun _ => 0))]))) 1024 rfl (by decide) (List.mem_cons_of_mem _ (List.mem_append_left _ (List.mem_of_getElem? (i := 3) rfl))) (by decide) (by decide) dX2_init_17 (fun _ => rfl) (fun q17 => ?_)
  refine j_putF F hin (ref := "CairnGame$Solution") (C := RX2) (T := TX2) (N := 5) (ci := 2) (index := 15) (ty := (.array .int)) (ws' := [(a, .inr (2, [.ref q8, .ref q17, .null, .null, .int (iI 0)]))] ++ ([(q8, iR g 1024 (fun _ => 0))] ++ ([(q17, iR g 1024 (fun _ => 0))]))) (fun w h => (List.mem_cons_of_mem _ (List.mem_append_right _ h))) tyX2 tyX2_ok nmX2 0 rfl rfl 1 (by decide) (List.mem_cons_of_mem _ (List.mem_append_left _ (List.mem_of_getElem? (i := 5) rfl))) rfl rfl rfl rfl rfl rfl (lt_ble rfl) rfl dX2_init_19 ?_
  refine j_aload_n F dX2_init_22 rfl 0 rfl ?_
  refine j_sipush F dX2_init_23 (by decide) ?_
  refine j_newa_i F (ws' := fun q26 => [(a, .inr (2, [.ref q8, .ref q17, .null, .null, .int (iI 0)]))] ++ ([(q8, iR g 1024 (fun _ => 0))] ++ ([(q17, iR g 1024 (fun _ => 0))] ++ ([(q26, iR g 1024 (fun _ => 0))])))) 1024 rfl (by decide) (List.mem_cons_of_mem _ (List.mem_append_left _ (List.mem_of_getElem? (i := 3) rfl))) (by decide) (by decide) dX2_init_26 (fun _ => rfl) (fun q26 => ?_)
  refine j_putF F hin (ref := "CairnGame$Solution") (C := RX2) (T := TX2) (N := 5) (ci := 2) (index := 18) (ty := (.array .int)) (ws' := [(a, .inr (2, [.ref q8, .ref q17, .ref q26, .null, .int (iI 0)]))] ++ ([(q8, iR g 1024 (fun _ => 0))] ++ ([(q17, iR g 1024 (fun _ => 0))] ++ ([(q26, iR g 1024 (fun _ => 0))])))) (fun w h => (List.mem_cons_of_mem _ (List.mem_append_right _ h))) tyX2 tyX2_ok nmX2 0 rfl rfl 2 (by decide) (List.mem_cons_of_mem _ (List.mem_append_left _ (List.mem_of_getElem? (i := 6) rfl))) rfl rfl rfl rfl rfl rfl (lt_ble rfl) rfl dX2_init_28 ?_
  refine j_aload_n F dX2_init_31 rfl 0 rfl ?_
  refine j_sipush F dX2_init_32 (by decide) ?_
  refine j_newa_z F (ws' := fun q35 => [(a, .inr (2, [.ref q8, .ref q17, .ref q26, .null, .int (iI 0)]))] ++ ([(q8, iR g 1024 (fun _ => 0))] ++ ([(q17, iR g 1024 (fun _ => 0))] ++ ([(q26, iR g 1024 (fun _ => 0))] ++ ([(q35, zR g 1024 (fun _ => 0))]))))) 1024 rfl (by decide) (List.mem_cons_of_mem _ (List.mem_append_left _ (List.mem_of_getElem? (i := 7) rfl))) (by decide) (by decide) dX2_init_35 (fun _ => rfl) (fun q35 => ?_)
  refine j_putF F hin (ref := "CairnGame$Solution") (C := RX2) (T := TX2) (N := 5) (ci := 2) (index := 21) (ty := (.array .boolean)) (ws' := [(a, .inr (2, [.ref q8, .ref q17, .ref q26, .ref q35, .int (iI 0)]))] ++ ([(q8, iR g 1024 (fun _ => 0))] ++ ([(q17, iR g 1024 (fun _ => 0))] ++ ([(q26, iR g 1024 (fun _ => 0))] ++ ([(q35, zR g 1024 (fun _ => 0))]))))) (fun w h => (List.mem_cons_of_mem _ (List.mem_append_right _ h))) tyX2 tyX2_ok nmX2 0 rfl rfl 3 (by decide) (List.mem_cons_of_mem _ (List.mem_append_left _ (List.mem_of_getElem? (i := 8) rfl))) rfl rfl rfl rfl rfl rfl (lt_ble rfl) rfl dX2_init_37 ?_
  refine j_aload_n F dX2_init_40 rfl 0 rfl ?_
  refine j_iconst F dX2_init_41 ?_
  refine j_putf F (ref := "CairnGame$Solution") (C := RX2) (T := TX2) (N := 5) (ci := 2) (index := 25) (ty := .int) (ws' := [(a, .inr (2, [.ref q8, .ref q17, .ref q26, .ref q35, .int (iI 0)]))] ++ ([(q8, iR g 1024 (fun _ => 0))] ++ ([(q17, iR g 1024 (fun _ => 0))] ++ ([(q26, iR g 1024 (fun _ => 0))] ++ ([(q35, zR g 1024 (fun _ => 0))]))))) (fun w h => (List.mem_cons_of_mem _ (List.mem_append_right _ h))) tyX2 tyX2_ok nmX2 0 rfl rfl 4 (by decide) (List.mem_cons_of_mem _ (List.mem_append_left _ (List.mem_of_getElem? (i := 9) rfl))) rfl rfl rfl rfl rfl (lt_ble rfl) rfl dX2_init_42 ?_
  refine j_aload_n F dX2_init_45 rfl 0 rfl ?_
  refine j_getf F (ref := "CairnGame$Solution") (C := RX2) (T := TX2) (N := 5) (ci := 2) (index := 21) (v := .ref q35) (fun w h => (List.mem_cons_of_mem _ (List.mem_append_right _ h))) 0 rfl rfl 3 (by decide) (List.mem_cons_of_mem _ (List.mem_append_left _ (List.mem_of_getElem? (i := 8) rfl))) rfl rfl dX2_init_46 ?_
  refine j_iconst F dX2_init_49 ?_
  refine j_iconst F dX2_init_50 ?_
  refine j_zast F (ws' := [(a, .inr (2, [.ref q8, .ref q17, .ref q26, .ref q35, .int (iI 0)]))] ++ ([(q8, iR g 1024 (fun _ => 0))] ++ ([(q17, iR g 1024 (fun _ => 0))] ++ ([(q26, iR g 1024 (fun _ => 0))] ++ ([(q35, zR g 1024 (nup (fun _ => 0) 0 1))]))))) 4 (n := 1024) (f := (fun _ => 0)) rfl 0 (by decide) (by decide) (by decide) (Or.inr rfl) rfl dX2_init_51 ?_
  exact ret (q8, q17, q26, q35) 4 4096 _ _ dX2_init_52 (by decide) (by decide) trivial

set_option maxHeartbeats 4000000 in
set_option maxRecDepth 100000 in
theorem c_X2_isWonAt {l : Launch} (hfl : l.flags = flags0) (D : va_G) (g : GT) (z : ZT) (a q1 q2 q3 q4 : Nat) (sv : Int) (Nu Lo Sh Wo : NF) (q : Nat) (nm : Int) (hq : q < 1024) (hNu : rg (Nu q)) (hWo : Wo q = 0 ∨ Wo q = 1) (hnm : nm = 0 ∨ nm = 1) : CI l yX2_isWonAt wsX2_isWonAt 1 22 2 D g z [.ref a, .int (iI (q : Int)), .int (iI nm)] (soC g a q1 q2 q3 q4 sv Nu Lo Sh Wo) (fun (r9 : Int32) (u9 : Unit) => r9 = iI (wonI (Nu q) (Wo q) nm)) (fun (u9 : Unit) => soC g a q1 q2 q3 q4 sv Nu Lo Sh Wo) 0 0 := by
  refine CI_of hfl (own := RX2) ⟨0, 0, 0, 0⟩ 1 22 2 (by decide +kernel) rfl rfl ⟨by decide, by decide, by decide +kernel⟩ ⟨by decide, by decide⟩ (le_ble rfl) (fun _ _ h => nar_01 h (wonI_01 hWo)) ?_
  intro p e s m below meth c A Q F ret
  change J p l e _ s m _ below meth c A D _ Q 0 0 (soC g a q1 q2 q3 q4 sv Nu Lo Sh Wo) [(0, .ref a), (1, .int (iI (q : Int))), (2, .int (iI nm))] [] 0
  refine j_iload_n F dX2_isWonAt_0 rfl 2 rfl ?_
  refine j_if_eq F (tgt := 21) dX2_isWonAt_1 (by decide) (by unfold rg; omega) (fun c1 => ?_) (fun c1 => ?_)
  · refine j_aload_n F dX2_isWonAt_21 rfl 0 rfl ?_
    refine j_getf F (ref := "CairnGame$Solution") (C := RX2) (T := TX2) (N := 5) (ci := 2) (index := 21) (v := .ref q4) (fun w h => (List.mem_cons_of_mem _ (List.mem_append_right _ h))) 0 rfl rfl 3 (by decide) (List.mem_cons_of_mem _ (List.mem_append_left _ (List.mem_of_getElem? (i := 1) rfl))) rfl rfl dX2_isWonAt_22 ?_
    refine j_iload_n F dX2_isWonAt_25 rfl 1 rfl ?_
    refine j_zald F 4 (n := 1024) (f := Wo) rfl q (rfl) (by omega) (by decide) dX2_isWonAt_26 ?_
    exact ret _ () 0 0 _ _ dX2_isWonAt_27 (by decide) (by decide) (by refine congrArg iI ?_; unfold wonI; split <;> (try split) <;> omega)
  · refine j_aload_n F dX2_isWonAt_4 rfl 0 rfl ?_
    refine j_getf F (ref := "CairnGame$Solution") (C := RX2) (T := TX2) (N := 5) (ci := 2) (index := 9) (v := .ref q1) (fun w h => (List.mem_cons_of_mem _ (List.mem_append_right _ h))) 0 rfl rfl 0 (by decide) (List.mem_cons_of_mem _ (List.mem_append_left _ (List.mem_of_getElem? (i := 0) rfl))) rfl rfl dX2_isWonAt_5 ?_
    refine j_iload_n F dX2_isWonAt_8 rfl 1 rfl ?_
    refine j_iald F 1 (n := 1024) (f := Nu) rfl q (rfl) (by omega) (by decide) dX2_isWonAt_9 ?_
    refine j_if_eq F (tgt := 17) dX2_isWonAt_10 (by decide) (hNu) (fun c10 => ?_) (fun c10 => ?_)
    · refine j_iconst F dX2_isWonAt_17 ?_
      refine j_goto F (tgt := 27) dX2_isWonAt_18 (by decide) ?_
      exact ret _ () 0 0 _ _ dX2_isWonAt_27 (by decide) (by decide) (by refine congrArg iI ?_; unfold wonI; split <;> (try split) <;> omega)
    · refine j_iconst F dX2_isWonAt_13 ?_
      refine j_goto F (tgt := 27) dX2_isWonAt_14 (by decide) ?_
      exact ret _ () 0 0 _ _ dX2_isWonAt_27 (by decide) (by decide) (by refine congrArg iI ?_; unfold wonI; split <;> (try split) <;> omega)

set_option maxHeartbeats 4000000 in
set_option maxRecDepth 100000 in
theorem c_X2_leastMissing {l : Launch} (hfl : l.flags = flags0) (D : va_G) (g : GT) (z : ZT) (B : Nat) (bl : List Nat) (hB : ∀ x, B.testBit x = true ↔ x ∈ bl) : CI l yX2_leastMissing wsX2_leastMissing 1 22 1 D g z [.long (lN B)] ([]) (fun (r9 : Int32) (u9 : Unit) => r9 = iI ((mexF bl 63 0 : Nat) : Int)) (fun (u9 : Unit) => []) 0 0 := by
  refine CI_of hfl (own := RX2) ⟨0, 0, 0, 0⟩ 1 22 1 (by decide +kernel) rfl rfl ⟨by decide, by decide, by decide +kernel⟩ ⟨by decide, by decide⟩ (le_ble rfl) (fun _ _ _ => rfl) ?_
  intro p e s m below meth c A Q F ret
  change J p l e _ s m _ below meth c A D _ Q 0 0 ([]) [(0, .long (lN B))] [] 0
  refine j_iconst F dX2_leastMissing_0 ?_
  refine j_istore_n F (lv' := [(2, .int (iI 0)), (0, .long (lN B))]) dX2_leastMissing_1 rfl (by decide) rfl ?_
  refine J.loc [0, 1] rfl ?_
  refine J_loop (σ := Nat) (fun j : Nat => j ≤ 63 ∧ mexF bl (63 - j) j = mexF bl 63 0) (fun j : Nat => 63 - j) (fun j : Nat => []) (fun j : Nat => [(2, .int (iI (j : Int))), (0, .long (lN B))]) (0) (by show 0 ≤ 63 ∧ mexF bl (63 - 0) 0 = mexF bl 63 0; exact ⟨by omega, rfl⟩) ?_
  rintro j hI ih2
  have hI : j ≤ 63 ∧ mexF bl (63 - j) j = mexF bl 63 0 := hI
  obtain ⟨h1, h2⟩ := hI
  refine j_iload_n F dX2_leastMissing_2 rfl 0 rfl ?_
  refine j_bipush F dX2_leastMissing_3 (by decide) ?_
  refine j_icmp_ge F (tgt := 24) dX2_leastMissing_5 (by decide) ⟨(by unfold rg; omega), (by unfold rg; omega)⟩ (fun c5 => ?_) (fun c5 => ?_)
  · refine j_iload_n F dX2_leastMissing_24 rfl 0 rfl ?_
    exact ret _ () 0 0 _ _ dX2_leastMissing_25 (by decide) (by decide) (congrArg iI (mex_end h2 (Or.inl (by omega)) h1))
  · refine j_lload_n F dX2_leastMissing_8 rfl 1 rfl ?_
    refine j_iload_n F dX2_leastMissing_9 rfl 0 rfl ?_
    refine j_lshr F rfl dX2_leastMissing_10 ?_
    refine j_lconst F dX2_leastMissing_11 ?_
    refine j_land F dX2_leastMissing_12 ?_
    refine j_lconst F dX2_leastMissing_13 ?_
    refine j_lcmp F dX2_leastMissing_14 ?_
    refine j_ifl_ne F (tgt := 24) dX2_leastMissing_15 (by decide) (fun c15 => ?_) (fun c15 => ?_)
    · refine j_iload_n F dX2_leastMissing_24 rfl 0 rfl ?_
      exact ret _ () 0 0 _ _ dX2_leastMissing_25 (by decide) (by decide) (congrArg iI (mex_end h2 (Or.inr (fun w => c15 ((lb_bit (by omega)).mpr ((hB j).mpr w)))) h1))
    · refine j_iinc F (lv' := [(2, .int (iI ((j : Int) + 1))), (0, .long (lN B))]) dX2_leastMissing_18 0 rfl (by decide) rfl ?_
      refine j_goto F (tgt := 2) dX2_leastMissing_21 (by decide) ?_
      refine J.loc [0, 1] rfl ?_
      exact ih2 (j + 1) (by show (j + 1) ≤ 63 ∧ mexF bl (63 - (j + 1)) (j + 1) = mexF bl 63 0; exact ⟨by omega, mex_step (by omega) h2 ((hB j).mp ((lb_bit (by omega)).mp c15))⟩) (by show 63 - (j + 1) < 63 - j; omega)

set_option maxHeartbeats 4000000 in
set_option maxRecDepth 100000 in
theorem c_X2_enter {l : Launch} (hfl : l.flags = flags0) (D : va_G) (g : GT) (z : ZT) (a q1 q2 q3 q4 : Nat) (sv : Int) (Nu Lo Sh Wo : NF) (la p1 p2 p3 p4 n q : Nat) (ka ha ma ba : NF) (bs : Nat → Nat) (vs : List VT) (hn : n = vs.length) (hn2 : n ≤ 84) (hne : vs ≠ []) (hq : q < 1024) (hba : ∀ i, i < n → ba i = ((bs i : Nat) : Int)) (hbs : ∀ i, i < n → bs i < 1024) (htab : ∀ i, i < n → tabAt Nu Lo Sh Wo (bs i) (vs.getD i v0)) (hvs : ∀ v ∈ vs, v.1 ≤ 23 ∧ v.2.1 ≤ 1 ∧ v.2.2.1 ≤ 23 ∧ v.2.2.2 ≤ 23) : CV l yX2_enter wsX2_enter 2 89 2 D g z [.ref a, .int (iI (q : Int)), .ref la] (soC g a q1 q2 q3 q4 sv Nu Lo Sh Wo ++ (mlC g la p1 p2 p3 p4 (n : Int) ka ha ma ba)) (fun (u9 : Unit) => True) (fun (u9 : Unit) => soC g a q1 q2 q3 q4 sv (nup Nu q (((combV vs).1 : Nat) : Int)) (nup Lo q (((combV vs).2.2.1 : Nat) : Int)) (nup Sh q (((combV vs).2.2.2 : Nat) : Int)) (nup Wo q (((combV vs).2.1 : Nat) : Int)) ++ (mlC g la p1 p2 p3 p4 (n : Int) ka ha ma ba)) 0 0 := by
  refine CV_of hfl (own := RX2) ⟨1, 0, 0, 60⟩ 2 89 2 (by decide +kernel) rfl rfl ⟨by decide, by decide, by decide +kernel⟩ ⟨by decide, by decide⟩ (le_ble rfl) ?_
  intro p e s m below meth c A Q F hin ret
  change J p l e _ s m _ below meth c A D _ Q 0 0 (soC g a q1 q2 q3 q4 sv Nu Lo Sh Wo ++ (mlC g la p1 p2 p3 p4 (n : Int) ka ha ma ba)) [(0, .ref a), (1, .int (iI (q : Int))), (2, .ref la)] [] 0
  refine j_lconst F dX2_enter_0 ?_
  refine j_lstore_n F (lv' := [(3, .long 0), (0, .ref a), (1, .int (iI (q : Int))), (2, .ref la)]) dX2_enter_1 rfl (by decide) rfl ?_
  refine j_iconst F dX2_enter_2 ?_
  refine j_istore F (lv' := [(5, .int (iI 0)), (3, .long 0), (0, .ref a), (1, .int (iI (q : Int))), (2, .ref la)]) dX2_enter_3 (by decide) rfl ?_
  refine j_sipush F dX2_enter_5 (by decide) ?_
  refine j_istore F (lv' := [(6, .int (iI 1000)), (5, .int (iI 0)), (3, .long 0), (0, .ref a), (1, .int (iI (q : Int))), (2, .ref la)]) dX2_enter_8 (by decide) rfl ?_
  refine j_iconst F dX2_enter_10 ?_
  refine j_istore F (lv' := [(7, .int (iI 0)), (6, .int (iI 1000)), (5, .int (iI 0)), (3, .long 0), (0, .ref a), (1, .int (iI (q : Int))), (2, .ref la)]) dX2_enter_11 (by decide) rfl ?_
  refine j_iconst F dX2_enter_13 ?_
  refine j_istore F (lv' := [(8, .int (iI 0)), (7, .int (iI 0)), (6, .int (iI 1000)), (5, .int (iI 0)), (3, .long 0), (0, .ref a), (1, .int (iI (q : Int))), (2, .ref la)]) dX2_enter_14 (by decide) rfl ?_
  refine J.loc [0, 1, 2, 3, 4, 5, 6, 7] rfl ?_
  refine J_loop (σ := Nat × Nat × Int × Int × Int) (fun x9 : Nat × Nat × Int × Int × Int => match x9 with | (j, B, mo, fe, wo) => bagI vs j B wo ∧ entI vs j mo fe) (fun x9 : Nat × Nat × Int × Int × Int => match x9 with | (j, B, mo, fe, wo) => n - j) (fun x9 : Nat × Nat × Int × Int × Int => match x9 with | (j, B, mo, fe, wo) => soC g a q1 q2 q3 q4 sv Nu Lo Sh Wo ++ (mlC g la p1 p2 p3 p4 (n : Int) ka ha ma ba)) (fun x9 : Nat × Nat × Int × Int × Int => match x9 with | (j, B, mo, fe, wo) => [(8, .int (iI (j : Int))), (7, .int (iI wo)), (6, .int (iI fe)), (5, .int (iI mo)), (3, .long (lN B)), (0, .ref a), (1, .int (iI (q : Int))), (2, .ref la)]) (0, 0, 0, 1000, 0) (by show bagI vs 0 0 0 ∧ entI vs 0 0 1000; exact ⟨bagI_0 vs, entI_0 vs⟩) ?_
  rintro ⟨j, B, mo, fe, wo⟩ hI ih16
  have hI : bagI vs j B wo ∧ entI vs j mo fe := hI
  obtain ⟨hg, he⟩ := hI
  have hjl := hg.1
  have hw01 := wo_01 hg
  have hex := he.2.2
  refine j_iload F dX2_enter_16 0 rfl ?_
  refine j_aload_n F dX2_enter_18 rfl 7 rfl ?_
  refine j_getf F (ref := "CairnGame$MoveList") (C := RX1) (T := TX1) (N := 5) (ci := 1) (index := 29) (v := .int (iI (n : Int))) (fun w h => (List.mem_cons_of_mem _ (List.mem_append_left _ (List.mem_append_right _ h)))) 5 rfl rfl 4 (by decide) (List.mem_cons_of_mem _ (List.mem_append_left _ (List.mem_append_left _ (List.mem_of_getElem? (i := 0) rfl)))) rfl rfl dX2_enter_19 ?_
  refine j_icmp_ge F (tgt := 102) dX2_enter_22 (by decide) ⟨(by unfold rg; omega), (by unfold rg; omega)⟩ (fun c22 => ?_) (fun c22 => ?_)
  · have ej : j = vs.length := by omega
    subst ej
    obtain ⟨e1, e2⟩ := entI_e he hne (fun v hv => (hvs v hv).2.2.2)
    obtain ⟨e3, e4⟩ := bagI_e hg hne
    refine j_aload_n F dX2_enter_102 rfl 5 rfl ?_
    refine j_getf F (ref := "CairnGame$Solution") (C := RX2) (T := TX2) (N := 5) (ci := 2) (index := 9) (v := .ref q1) (fun w h => (List.mem_cons_of_mem _ (List.mem_append_right _ h))) 0 rfl rfl 0 (by decide) (List.mem_cons_of_mem _ (List.mem_append_left _ (List.mem_append_left _ (List.mem_of_getElem? (i := 2) rfl)))) rfl rfl dX2_enter_103 ?_
    refine j_iload_n F dX2_enter_106 rfl 6 rfl ?_
    refine j_lload_n F dX2_enter_107 rfl 4 rfl ?_
    refine j_callS_I F (As := [.long (lN B)]) (wr := soC g a q1 q2 q3 q4 sv Nu Lo Sh Wo ++ (mlC g la p1 p2 p3 p4 (n : Int) ka ha ma ba)) (st := [.int (iI (q : Int)), .ref q1]) (c_X2_leastMissing hfl D g z B (vs.map (fun w => w.1)) (bagI_mem hg)) (idx := 46) gX2_enter_X2_leastMissing rfl [] [0, 1, 2, 3, 4, 5, 6, 7, 8, 9] rfl rfl (by decide) (by decide) (by decide)  (by decide) (by decide) (le_ble rfl) ⟨by decide, by decide⟩ dX2_enter_108 ?_
    rintro r9 u9 h9
    subst h9
    rw [← e4]
    refine J.wsEq (ws2 := soC g a q1 q2 q3 q4 sv Nu Lo Sh Wo ++ (mlC g la p1 p2 p3 p4 (n : Int) ka ha ma ba)) rfl ?_
    refine j_iast F (ws' := soC g a q1 q2 q3 q4 sv (nup Nu q (((combV vs).1 : Nat) : Int)) Lo Sh Wo ++ (mlC g la p1 p2 p3 p4 (n : Int) ka ha ma ba)) 1 (n := 1024) (f := Nu) rfl q (rfl) (by omega) (by decide) rfl dX2_enter_111 ?_
    refine j_aload_n F dX2_enter_112 rfl 5 rfl ?_
    refine j_getf F (ref := "CairnGame$Solution") (C := RX2) (T := TX2) (N := 5) (ci := 2) (index := 15) (v := .ref q2) (fun w h => (List.mem_cons_of_mem _ (List.mem_append_right _ h))) 0 rfl rfl 1 (by decide) (List.mem_cons_of_mem _ (List.mem_append_left _ (List.mem_append_left _ (List.mem_of_getElem? (i := 3) rfl)))) rfl rfl dX2_enter_113 ?_
    refine j_iload_n F dX2_enter_116 rfl 6 rfl ?_
    refine j_iload F dX2_enter_117 3 rfl ?_
    refine j_iconst F dX2_enter_119 ?_
    refine j_iadd F dX2_enter_120 ?_
    refine J.top (congrArg iI (show (mo + 1) = (((combV vs).2.2.1 : Nat) : Int) from e1)) ?_
    refine j_iast F (ws' := soC g a q1 q2 q3 q4 sv (nup Nu q (((combV vs).1 : Nat) : Int)) (nup Lo q (((combV vs).2.2.1 : Nat) : Int)) Sh Wo ++ (mlC g la p1 p2 p3 p4 (n : Int) ka ha ma ba)) 2 (n := 1024) (f := Lo) rfl q (rfl) (by omega) (by decide) rfl dX2_enter_121 ?_
    refine j_aload_n F dX2_enter_122 rfl 5 rfl ?_
    refine j_getf F (ref := "CairnGame$Solution") (C := RX2) (T := TX2) (N := 5) (ci := 2) (index := 18) (v := .ref q3) (fun w h => (List.mem_cons_of_mem _ (List.mem_append_right _ h))) 0 rfl rfl 2 (by decide) (List.mem_cons_of_mem _ (List.mem_append_left _ (List.mem_append_left _ (List.mem_of_getElem? (i := 8) rfl)))) rfl rfl dX2_enter_123 ?_
    refine j_iload_n F dX2_enter_126 rfl 6 rfl ?_
    refine j_iload F dX2_enter_127 2 rfl ?_
    refine j_iconst F dX2_enter_129 ?_
    refine j_iadd F dX2_enter_130 ?_
    refine J.top (congrArg iI (show (fe + 1) = (((combV vs).2.2.2 : Nat) : Int) from e2)) ?_
    refine j_iast F (ws' := soC g a q1 q2 q3 q4 sv (nup Nu q (((combV vs).1 : Nat) : Int)) (nup Lo q (((combV vs).2.2.1 : Nat) : Int)) (nup Sh q (((combV vs).2.2.2 : Nat) : Int)) Wo ++ (mlC g la p1 p2 p3 p4 (n : Int) ka ha ma ba)) 3 (n := 1024) (f := Sh) rfl q (rfl) (by omega) (by decide) rfl dX2_enter_131 ?_
    refine j_aload_n F dX2_enter_132 rfl 5 rfl ?_
    refine j_getf F (ref := "CairnGame$Solution") (C := RX2) (T := TX2) (N := 5) (ci := 2) (index := 21) (v := .ref q4) (fun w h => (List.mem_cons_of_mem _ (List.mem_append_right _ h))) 0 rfl rfl 3 (by decide) (List.mem_cons_of_mem _ (List.mem_append_left _ (List.mem_append_left _ (List.mem_of_getElem? (i := 12) rfl)))) rfl rfl dX2_enter_133 ?_
    refine j_iload_n F dX2_enter_136 rfl 6 rfl ?_
    refine j_iload F dX2_enter_137 1 rfl ?_
    refine j_zast F (ws' := soC g a q1 q2 q3 q4 sv (nup Nu q (((combV vs).1 : Nat) : Int)) (nup Lo q (((combV vs).2.2.1 : Nat) : Int)) (nup Sh q (((combV vs).2.2.2 : Nat) : Int)) (nup Wo q wo) ++ (mlC g la p1 p2 p3 p4 (n : Int) ka ha ma ba)) 4 (n := 1024) (f := Wo) rfl q (rfl) (by omega) (by decide) (hw01) rfl dX2_enter_139 ?_
    refine J.wsEq (ws2 := soC g a q1 q2 q3 q4 sv (nup Nu q (((combV vs).1 : Nat) : Int)) (nup Lo q (((combV vs).2.2.1 : Nat) : Int)) (nup Sh q (((combV vs).2.2.2 : Nat) : Int)) (nup Wo q (((combV vs).2.1 : Nat) : Int)) ++ (mlC g la p1 p2 p3 p4 (n : Int) ka ha ma ba)) (by rw [e3]) ?_
    exact ret () 0 0 _ _ dX2_enter_140 (by decide) (by decide) trivial
  · have hjn : j < vs.length := by omega
    have hb1 := hba j (by omega)
    have hb2 := hbs j (by omega)
    obtain ⟨t1, t2, t3, t4⟩ := htab j (by omega)
    obtain ⟨v1, v2, v3, v4⟩ := hvs _ (getD_memV hjn)
    refine j_aload_n F dX2_enter_25 rfl 7 rfl ?_
    refine j_getf F (ref := "CairnGame$MoveList") (C := RX1) (T := TX1) (N := 5) (ci := 1) (index := 34) (v := .ref p4) (fun w h => (List.mem_cons_of_mem _ (List.mem_append_left _ (List.mem_append_right _ h)))) 5 rfl rfl 3 (by decide) (List.mem_cons_of_mem _ (List.mem_append_left _ (List.mem_append_left _ (List.mem_of_getElem? (i := 1) rfl)))) rfl rfl dX2_enter_26 ?_
    refine j_iload F dX2_enter_29 0 rfl ?_
    refine j_iald F 9 (n := 84) (f := ba) rfl j (rfl) (by omega) (by decide) dX2_enter_31 ?_
    refine J.top (congrArg iI (show ba j = (((bs j) : Nat) : Int) from hb1)) ?_
    refine j_istore F (lv' := [(9, .int (iI (((bs j) : Nat) : Int))), (8, .int (iI (j : Int))), (7, .int (iI wo)), (6, .int (iI fe)), (5, .int (iI mo)), (3, .long (lN B)), (0, .ref a), (1, .int (iI (q : Int))), (2, .ref la)]) dX2_enter_32 (by decide) rfl ?_
    refine j_lload_n F dX2_enter_34 rfl 5 rfl ?_
    refine j_lconst F dX2_enter_35 ?_
    refine j_aload_n F dX2_enter_36 rfl 6 rfl ?_
    refine j_getf F (ref := "CairnGame$Solution") (C := RX2) (T := TX2) (N := 5) (ci := 2) (index := 9) (v := .ref q1) (fun w h => (List.mem_cons_of_mem _ (List.mem_append_right _ h))) 0 rfl rfl 0 (by decide) (List.mem_cons_of_mem _ (List.mem_append_left _ (List.mem_append_left _ (List.mem_of_getElem? (i := 2) rfl)))) rfl rfl dX2_enter_37 ?_
    refine j_iload F dX2_enter_40 0 rfl ?_
    refine j_iald F 1 (n := 1024) (f := Nu) rfl (bs j) (by omega) (by omega) (by decide) dX2_enter_42 ?_
    refine J.top (congrArg iI (show Nu (bs j) = (((vs.getD j v0).1 : Nat) : Int) from t1)) ?_
    refine j_lshl F rfl dX2_enter_43 ?_
    refine J.topL (show (1 <<< ((iI (((vs.getD j v0).1 : Nat) : Int)).toInt64 &&& 63)) = (lN (2 ^ (vs.getD j v0).1)) from lb_one _ (by omega)) ?_
    refine j_lor F dX2_enter_44 ?_
    refine J.topL (show ((lN B) ||| (lN (2 ^ (vs.getD j v0).1))) = (lN (B ||| 2 ^ (vs.getD j v0).1)) from lb_or _ _) ?_
    refine j_lstore_n F (lv' := [(3, .long (lN (B ||| 2 ^ (vs.getD j v0).1))), (9, .int (iI (((bs j) : Nat) : Int))), (8, .int (iI (j : Int))), (7, .int (iI wo)), (6, .int (iI fe)), (5, .int (iI mo)), (0, .ref a), (1, .int (iI (q : Int))), (2, .ref la)]) dX2_enter_45 rfl (by decide) rfl ?_
    refine j_iload F dX2_enter_46 5 rfl ?_
    refine j_aload_n F dX2_enter_48 rfl 6 rfl ?_
    refine j_getf F (ref := "CairnGame$Solution") (C := RX2) (T := TX2) (N := 5) (ci := 2) (index := 15) (v := .ref q2) (fun w h => (List.mem_cons_of_mem _ (List.mem_append_right _ h))) 0 rfl rfl 1 (by decide) (List.mem_cons_of_mem _ (List.mem_append_left _ (List.mem_append_left _ (List.mem_of_getElem? (i := 3) rfl)))) rfl rfl dX2_enter_49 ?_
    refine j_iload F dX2_enter_52 1 rfl ?_
    refine j_iald F 2 (n := 1024) (f := Lo) rfl (bs j) (by omega) (by omega) (by decide) dX2_enter_54 ?_
    refine J.top (congrArg iI (show Lo (bs j) = (((vs.getD j v0).2.2.1 : Nat) : Int) from t2)) ?_
    refine j_mmax F (List.mem_cons_of_mem _ (List.mem_append_left _ (List.mem_append_left _ (List.mem_of_getElem? (i := 4) rfl)))) (List.mem_cons_of_mem _ (List.mem_append_left _ (List.mem_append_left _ (List.mem_of_getElem? (i := 5) rfl)))) (List.mem_cons_of_mem _ (List.mem_append_left _ (List.mem_append_left _ (List.mem_of_getElem? (i := 6) rfl)))) (List.mem_cons_of_mem _ (List.mem_append_left _ (List.mem_append_left _ (List.mem_of_getElem? (i := 7) rfl)))) ⟨(by unfold rg; omega), (by unfold rg; omega)⟩ (le_ble rfl) (by decide) (by decide) (by decide) (by decide) dX2_enter_55 ?_
    refine j_istore F (lv' := [(5, .int (iI (max mo (((vs.getD j v0).2.2.1 : Nat) : Int)))), (3, .long (lN (B ||| 2 ^ (vs.getD j v0).1))), (9, .int (iI (((bs j) : Nat) : Int))), (8, .int (iI (j : Int))), (7, .int (iI wo)), (6, .int (iI fe)), (0, .ref a), (1, .int (iI (q : Int))), (2, .ref la)]) dX2_enter_58 (by decide) rfl ?_
    refine j_iload F dX2_enter_60 5 rfl ?_
    refine j_aload_n F dX2_enter_62 rfl 6 rfl ?_
    refine j_getf F (ref := "CairnGame$Solution") (C := RX2) (T := TX2) (N := 5) (ci := 2) (index := 18) (v := .ref q3) (fun w h => (List.mem_cons_of_mem _ (List.mem_append_right _ h))) 0 rfl rfl 2 (by decide) (List.mem_cons_of_mem _ (List.mem_append_left _ (List.mem_append_left _ (List.mem_of_getElem? (i := 8) rfl)))) rfl rfl dX2_enter_63 ?_
    refine j_iload F dX2_enter_66 2 rfl ?_
    refine j_iald F 3 (n := 1024) (f := Sh) rfl (bs j) (by omega) (by omega) (by decide) dX2_enter_68 ?_
    refine J.top (congrArg iI (show Sh (bs j) = (((vs.getD j v0).2.2.2 : Nat) : Int) from t3)) ?_
    refine j_mmin F (List.mem_cons_of_mem _ (List.mem_append_left _ (List.mem_append_left _ (List.mem_of_getElem? (i := 9) rfl)))) (List.mem_cons_of_mem _ (List.mem_append_left _ (List.mem_append_left _ (List.mem_of_getElem? (i := 10) rfl)))) (List.mem_cons_of_mem _ (List.mem_append_left _ (List.mem_append_left _ (List.mem_of_getElem? (i := 6) rfl)))) (List.mem_cons_of_mem _ (List.mem_append_left _ (List.mem_append_left _ (List.mem_of_getElem? (i := 11) rfl)))) ⟨(by unfold rg; omega), (by unfold rg; omega)⟩ (le_ble rfl) (by decide) (by decide) (by decide) (by decide) dX2_enter_69 ?_
    refine j_istore F (lv' := [(6, .int (iI (min fe (((vs.getD j v0).2.2.2 : Nat) : Int)))), (5, .int (iI (max mo (((vs.getD j v0).2.2.1 : Nat) : Int)))), (3, .long (lN (B ||| 2 ^ (vs.getD j v0).1))), (9, .int (iI (((bs j) : Nat) : Int))), (8, .int (iI (j : Int))), (7, .int (iI wo)), (0, .ref a), (1, .int (iI (q : Int))), (2, .ref la)]) dX2_enter_72 (by decide) rfl ?_
    refine j_iload F dX2_enter_74 5 rfl ?_
    refine j_if_ne F (tgt := 89) dX2_enter_76 (by decide) (by unfold rg; omega) (fun c76 => ?_) (fun c76 => ?_)
    · refine j_iconst F dX2_enter_89 ?_
      refine j_goto F (tgt := 94) dX2_enter_90 (by decide) ?_
      refine j_istore F (lv' := [(7, .int (iI 1)), (6, .int (iI (min fe (((vs.getD j v0).2.2.2 : Nat) : Int)))), (5, .int (iI (max mo (((vs.getD j v0).2.2.1 : Nat) : Int)))), (3, .long (lN (B ||| 2 ^ (vs.getD j v0).1))), (9, .int (iI (((bs j) : Nat) : Int))), (8, .int (iI (j : Int))), (0, .ref a), (1, .int (iI (q : Int))), (2, .ref la)]) dX2_enter_94 (by decide) rfl ?_
      refine j_iinc F (lv' := [(8, .int (iI ((j : Int) + 1))), (7, .int (iI 1)), (6, .int (iI (min fe (((vs.getD j v0).2.2.2 : Nat) : Int)))), (5, .int (iI (max mo (((vs.getD j v0).2.2.1 : Nat) : Int)))), (3, .long (lN (B ||| 2 ^ (vs.getD j v0).1))), (9, .int (iI (((bs j) : Nat) : Int))), (0, .ref a), (1, .int (iI (q : Int))), (2, .ref la)]) dX2_enter_96 5 rfl (by decide) rfl ?_
      refine j_goto F (tgt := 16) dX2_enter_99 (by decide) ?_
      refine J.loc [0, 1, 2, 3, 4, 6, 7, 8] rfl ?_
      exact ih16 ((j + 1), (B ||| 2 ^ (vs.getD j v0).1), (max mo (((vs.getD j v0).2.2.1 : Nat) : Int)), (min fe (((vs.getD j v0).2.2.2 : Nat) : Int)), 1) (by show bagI vs (j + 1) (B ||| 2 ^ (vs.getD j v0).1) 1 ∧ entI vs (j + 1) (max mo (((vs.getD j v0).2.2.1 : Nat) : Int)) (min fe (((vs.getD j v0).2.2.2 : Nat) : Int)); exact ⟨bagI_s hg hjn (by omega) (by split <;> (try split) <;> omega), entI_s he hjn (by omega)⟩) (by show n - (j + 1) < n - j; omega)
    · refine j_aload_n F dX2_enter_79 rfl 6 rfl ?_
      refine j_getf F (ref := "CairnGame$Solution") (C := RX2) (T := TX2) (N := 5) (ci := 2) (index := 21) (v := .ref q4) (fun w h => (List.mem_cons_of_mem _ (List.mem_append_right _ h))) 0 rfl rfl 3 (by decide) (List.mem_cons_of_mem _ (List.mem_append_left _ (List.mem_append_left _ (List.mem_of_getElem? (i := 12) rfl)))) rfl rfl dX2_enter_80 ?_
      refine j_iload F dX2_enter_83 3 rfl ?_
      refine j_zald F 4 (n := 1024) (f := Wo) rfl (bs j) (by omega) (by omega) (by decide) dX2_enter_85 ?_
      refine J.top (congrArg iI (show Wo (bs j) = (((vs.getD j v0).2.1 : Nat) : Int) from t4)) ?_
      refine j_if_ne F (tgt := 93) dX2_enter_86 (by decide) (by unfold rg; omega) (fun c86 => ?_) (fun c86 => ?_)
      · refine j_iconst F dX2_enter_93 ?_
        refine j_istore F (lv' := [(7, .int (iI 0)), (6, .int (iI (min fe (((vs.getD j v0).2.2.2 : Nat) : Int)))), (5, .int (iI (max mo (((vs.getD j v0).2.2.1 : Nat) : Int)))), (3, .long (lN (B ||| 2 ^ (vs.getD j v0).1))), (9, .int (iI (((bs j) : Nat) : Int))), (8, .int (iI (j : Int))), (0, .ref a), (1, .int (iI (q : Int))), (2, .ref la)]) dX2_enter_94 (by decide) rfl ?_
        refine j_iinc F (lv' := [(8, .int (iI ((j : Int) + 1))), (7, .int (iI 0)), (6, .int (iI (min fe (((vs.getD j v0).2.2.2 : Nat) : Int)))), (5, .int (iI (max mo (((vs.getD j v0).2.2.1 : Nat) : Int)))), (3, .long (lN (B ||| 2 ^ (vs.getD j v0).1))), (9, .int (iI (((bs j) : Nat) : Int))), (0, .ref a), (1, .int (iI (q : Int))), (2, .ref la)]) dX2_enter_96 5 rfl (by decide) rfl ?_
        refine j_goto F (tgt := 16) dX2_enter_99 (by decide) ?_
        refine J.loc [0, 1, 2, 3, 4, 6, 7, 8] rfl ?_
        exact ih16 ((j + 1), (B ||| 2 ^ (vs.getD j v0).1), (max mo (((vs.getD j v0).2.2.1 : Nat) : Int)), (min fe (((vs.getD j v0).2.2.2 : Nat) : Int)), 0) (by show bagI vs (j + 1) (B ||| 2 ^ (vs.getD j v0).1) 0 ∧ entI vs (j + 1) (max mo (((vs.getD j v0).2.2.1 : Nat) : Int)) (min fe (((vs.getD j v0).2.2.2 : Nat) : Int)); exact ⟨bagI_s hg hjn (by omega) (by split <;> (try split) <;> omega), entI_s he hjn (by omega)⟩) (by show n - (j + 1) < n - j; omega)
      · refine j_iconst F dX2_enter_89 ?_
        refine j_goto F (tgt := 94) dX2_enter_90 (by decide) ?_
        refine j_istore F (lv' := [(7, .int (iI 1)), (6, .int (iI (min fe (((vs.getD j v0).2.2.2 : Nat) : Int)))), (5, .int (iI (max mo (((vs.getD j v0).2.2.1 : Nat) : Int)))), (3, .long (lN (B ||| 2 ^ (vs.getD j v0).1))), (9, .int (iI (((bs j) : Nat) : Int))), (8, .int (iI (j : Int))), (0, .ref a), (1, .int (iI (q : Int))), (2, .ref la)]) dX2_enter_94 (by decide) rfl ?_
        refine j_iinc F (lv' := [(8, .int (iI ((j : Int) + 1))), (7, .int (iI 1)), (6, .int (iI (min fe (((vs.getD j v0).2.2.2 : Nat) : Int)))), (5, .int (iI (max mo (((vs.getD j v0).2.2.1 : Nat) : Int)))), (3, .long (lN (B ||| 2 ^ (vs.getD j v0).1))), (9, .int (iI (((bs j) : Nat) : Int))), (0, .ref a), (1, .int (iI (q : Int))), (2, .ref la)]) dX2_enter_96 5 rfl (by decide) rfl ?_
        refine j_goto F (tgt := 16) dX2_enter_99 (by decide) ?_
        refine J.loc [0, 1, 2, 3, 4, 6, 7, 8] rfl ?_
        exact ih16 ((j + 1), (B ||| 2 ^ (vs.getD j v0).1), (max mo (((vs.getD j v0).2.2.1 : Nat) : Int)), (min fe (((vs.getD j v0).2.2.2 : Nat) : Int)), 1) (by show bagI vs (j + 1) (B ||| 2 ^ (vs.getD j v0).1) 1 ∧ entI vs (j + 1) (max mo (((vs.getD j v0).2.2.1 : Nat) : Int)) (min fe (((vs.getD j v0).2.2.2 : Nat) : Int)); exact ⟨bagI_s hg hjn (by omega) (by split <;> (try split) <;> omega), entI_s he hjn (by omega)⟩) (by show n - (j + 1) < n - j; omega)

end X2
