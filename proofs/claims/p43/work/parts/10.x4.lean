/-! ===== State and the two small statics of the game: contracts ===== -/
section X4

set_option maxHeartbeats 4000000 in
set_option maxRecDepth 100000 in
theorem c_X6_weightOf {l : Launch} (hfl : l.flags = flags0) (D : va_G) (g : GT) (z : ZT) (x : Int) (hx : rg x) : CI l yX6_weightOf wsX6_weightOf 1 20 1 D g z [.int (iI x)] ([]) (fun (r9 : Int32) (u9 : Unit) => r9 = iI (wtI x)) (fun (u9 : Unit) => []) 0 0 := by
  refine CI_of hfl (own := RX6) ⟨0, 0, 0, 0⟩ 1 20 1 (by decide +kernel) rfl rfl ⟨by decide, by decide, by decide +kernel⟩ ⟨by decide, by decide⟩ (le_ble rfl) (fun _ _ _ => rfl) ?_
  intro p e s m below meth c A Q F ret
  change J p l e _ s m _ below meth c A D _ Q 0 0 ([]) [(0, .int (iI x))] [] 0
  have hx2 := hx
  unfold rg at hx2
  refine j_iload_n F dX6_weightOf_0 rfl 0 rfl ?_
  refine j_if_lt F (tgt := 20) dX6_weightOf_1 (by decide) (hx) (fun c1 => ?_) (fun c1 => ?_)
  · refine j_iconst F dX6_weightOf_20 ?_
    exact ret _ () 0 0 _ _ dX6_weightOf_21 (by decide) (by decide) (by first | rw [wtI, if_neg (by omega)] | rw [wtI, if_pos (by omega)])
  · refine j_iload_n F dX6_weightOf_4 rfl 0 rfl ?_
    refine j_weights F rfl (List.mem_cons_of_mem _ (List.mem_of_getElem? (i := 0) rfl)) dX6_weightOf_5 ?_
    refine j_wtlen F dX6_weightOf_8 ?_
    refine j_icmp_ge F (tgt := 20) dX6_weightOf_9 (by decide) ⟨(hx), (by unfold rg; omega)⟩ (fun c9 => ?_) (fun c9 => ?_)
    · refine j_iconst F dX6_weightOf_20 ?_
      exact ret _ () 0 0 _ _ dX6_weightOf_21 (by decide) (by decide) (by first | rw [wtI, if_neg (by omega)] | rw [wtI, if_pos (by omega)])
    · refine j_weights F rfl (List.mem_cons_of_mem _ (List.mem_of_getElem? (i := 0) rfl)) dX6_weightOf_12 ?_
      refine j_iload_n F dX6_weightOf_15 rfl 0 rfl ?_
      refine j_wtld F (k := ((x).toNat)) (by omega) (by omega) dX6_weightOf_16 ?_
      refine j_goto F (tgt := 21) dX6_weightOf_17 (by decide) ?_
      exact ret _ () 0 0 _ _ dX6_weightOf_21 (by decide) (by decide) (by first | rw [wtI, if_neg (by omega)] | rw [wtI, if_pos (by omega)])

set_option maxHeartbeats 4000000 in
set_option maxRecDepth 100000 in
theorem c_X6_bit {l : Launch} (hfl : l.flags = flags0) (D : va_G) (g : GT) (z : ZT) (v : Int) (hv : v = 0 ∨ v = 1) : CI l yX6_bit wsX6_bit 1 20 1 D g z [.int (iI v)] ([]) (fun (r9 : Int32) (u9 : Unit) => r9 = iI v) (fun (u9 : Unit) => []) 0 0 := by
  refine CI_of hfl (own := RX6) ⟨0, 0, 0, 0⟩ 1 20 1 (by decide +kernel) rfl rfl ⟨by decide, by decide, by decide +kernel⟩ ⟨by decide, by decide⟩ (le_ble rfl) (fun _ _ _ => rfl) ?_
  intro p e s m below meth c A Q F ret
  change J p l e _ s m _ below meth c A D _ Q 0 0 ([]) [(0, .int (iI v))] [] 0
  refine j_iload_n F dX6_bit_0 rfl 0 rfl ?_
  refine j_if_eq F (tgt := 8) dX6_bit_1 (by decide) (by unfold rg; omega) (fun c1 => ?_) (fun c1 => ?_)
  · refine j_iconst F dX6_bit_8 ?_
    exact ret _ () 0 0 _ _ dX6_bit_9 (by decide) (by decide) (by first | rfl | (congr 1; omega))
  · refine j_iconst F dX6_bit_4 ?_
    refine j_goto F (tgt := 9) dX6_bit_5 (by decide) ?_
    exact ret _ () 0 0 _ _ dX6_bit_9 (by decide) (by decide) (by first | rfl | (congr 1; omega))

set_option maxHeartbeats 4000000 in
set_option maxRecDepth 100000 in
theorem c_X4_hasHeap {l : Launch} (hfl : l.flags = flags0) (D : va_G) (g : GT) (z : ZT) (a b d n : Nat) (gr sp mg nm : Int) (f h : Nat → Int) (x : Int) (hn : n ≤ 12) (hx : rg x) : CI l yX4_hasHeap wsX4_hasHeap 1 21 1 D g z [.ref a, .int (iI x)] (stC g a b d (n : Int) gr sp mg nm f h) (fun (r9 : Int32) (u9 : Unit) => r9 = iI (b2 (0 ≤ x ∧ x < (n : Int)))) (fun (u9 : Unit) => stC g a b d (n : Int) gr sp mg nm f h) 0 0 := by
  refine CI_of hfl (own := RX4) ⟨0, 0, 0, 0⟩ 1 21 1 (by decide +kernel) rfl rfl ⟨by decide, by decide, by decide +kernel⟩ ⟨by decide, by decide⟩ (le_ble rfl) (fun _ _ h => nar_b2 h) ?_
  intro p e s m below meth c A Q F ret
  change J p l e _ s m _ below meth c A D _ Q 0 0 (stC g a b d (n : Int) gr sp mg nm f h) [(0, .ref a), (1, .int (iI x))] [] 0
  unfold rg at hx
  refine j_iload_n F dX4_hasHeap_0 rfl 1 rfl ?_
  refine j_if_lt F (tgt := 16) dX4_hasHeap_1 (by decide) (by unfold rg; omega) (fun c1 => ?_) (fun c1 => ?_)
  · refine j_iconst F dX4_hasHeap_16 ?_
    exact ret _ () 0 0 _ _ dX4_hasHeap_17 (by decide) (by decide) (by first | rw [b2_t (by omega)] | rw [b2_f (by omega)])
  · refine j_iload_n F dX4_hasHeap_4 rfl 1 rfl ?_
    refine j_aload_n F dX4_hasHeap_5 rfl 0 rfl ?_
    refine j_getf F (ref := "CairnGame$State") (C := RX4) (T := TX4) (N := 7) (ci := 4) (index := 15) (v := .int (iI (n : Int))) (fun w h => (List.mem_cons_of_mem _ (List.mem_append_right _ h))) 0 rfl rfl 1 (by decide) (List.mem_cons_of_mem _ (List.mem_append_left _ (List.mem_of_getElem? (i := 0) rfl))) rfl rfl dX4_hasHeap_6 ?_
    refine j_icmp_ge F (tgt := 16) dX4_hasHeap_9 (by decide) ⟨(by unfold rg; omega), (by unfold rg; omega)⟩ (fun c9 => ?_) (fun c9 => ?_)
    · refine j_iconst F dX4_hasHeap_16 ?_
      exact ret _ () 0 0 _ _ dX4_hasHeap_17 (by decide) (by decide) (by first | rw [b2_t (by omega)] | rw [b2_f (by omega)])
    · refine j_iconst F dX4_hasHeap_12 ?_
      refine j_goto F (tgt := 17) dX4_hasHeap_13 (by decide) ?_
      exact ret _ () 0 0 _ _ dX4_hasHeap_17 (by decide) (by decide) (by first | rw [b2_t (by omega)] | rw [b2_f (by omega)])

set_option maxHeartbeats 4000000 in
set_option maxRecDepth 100000 in
theorem c_X4_sizeAt {l : Launch} (hfl : l.flags = flags0) (D : va_G) (g : GT) (z : ZT) (a b d n : Nat) (gr sp mg nm : Int) (f h : Nat → Int) (x : Int) (hn : n ≤ 12) (hx : rg x) : CI l yX4_sizeAt wsX4_sizeAt 2 42 1 D g z [.ref a, .int (iI x)] (stC g a b d (n : Int) gr sp mg nm f h) (fun (r9 : Int32) (u9 : Unit) => r9 = iI (if 0 ≤ x ∧ x < (n : Int) then f x.toNat else 0)) (fun (u9 : Unit) => stC g a b d (n : Int) gr sp mg nm f h) 0 0 := by
  refine CI_of hfl (own := RX4) ⟨1, 0, 0, 21⟩ 2 42 1 (by decide +kernel) rfl rfl ⟨by decide, by decide, by decide +kernel⟩ ⟨by decide, by decide⟩ (le_ble rfl) (fun _ _ _ => rfl) ?_
  intro p e s m below meth c A Q F ret
  change J p l e _ s m _ below meth c A D _ Q 0 0 (stC g a b d (n : Int) gr sp mg nm f h) [(0, .ref a), (1, .int (iI x))] [] 0
  refine j_aload_n F dX4_sizeAt_0 rfl 0 rfl ?_
  refine j_iload_n F dX4_sizeAt_1 rfl 1 rfl ?_
  refine j_callV_I F (As := [.int (iI x)]) (wr := []) (st := []) (c_X4_hasHeap hfl D g z a b d n gr sp mg nm f h x hn hx) (idx := 41) (C := RX4) gX4_sizeAt_X4_hasHeap rfl rfl [0, 1, 2] [] rfl rfl (by decide) (by decide) (by decide) (ci := 4) (q0 := 0) rfl rfl (by decide) (by decide) (le_ble rfl) ⟨by decide, by decide⟩ dX4_sizeAt_2 ?_
  rintro r9 u9 rfl
  refine J.wsEq (ws2 := stC g a b d (n : Int) gr sp mg nm f h) rfl ?_
  refine j_ifb_eq F (tgt := 17) dX4_sizeAt_5 (by decide)  (fun c5 => ?_) (fun c5 => ?_)
  · refine j_iconst F dX4_sizeAt_17 ?_
    exact ret _ () 0 0 _ _ dX4_sizeAt_18 (by decide) (by decide) (by first | rw [if_pos c5] | rw [if_neg c5])
  · refine j_aload_n F dX4_sizeAt_8 rfl 0 rfl ?_
    refine j_getf F (ref := "CairnGame$State") (C := RX4) (T := TX4) (N := 7) (ci := 4) (index := 9) (v := .ref b) (fun w h => (List.mem_cons_of_mem _ (List.mem_append_right _ h))) 0 rfl rfl 0 (by decide) (List.mem_cons_of_mem _ (List.mem_append_left _ (List.mem_of_getElem? (i := 0) rfl))) rfl rfl dX4_sizeAt_9 ?_
    refine j_iload_n F dX4_sizeAt_12 rfl 1 rfl ?_
    refine j_iald F 1 (n := 12) (f := f) rfl ((x).toNat) (by omega) (by omega) (by decide) dX4_sizeAt_13 ?_
    refine j_goto F (tgt := 18) dX4_sizeAt_14 (by decide) ?_
    exact ret _ () 0 0 _ _ dX4_sizeAt_18 (by decide) (by decide) (by first | rw [if_pos c5] | rw [if_neg c5])

set_option maxHeartbeats 4000000 in
set_option maxRecDepth 100000 in
theorem c_X4_total {l : Launch} (hfl : l.flags = flags0) (D : va_G) (g : GT) (z : ZT) (a b d n : Nat) (gr sp mg nm : Int) (f h : Nat → Int) (hn : n ≤ 12) : CI l yX4_total wsX4_total 1 22 0 D g z [.ref a] (stC g a b d (n : Int) gr sp mg nm f h) (fun (r9 : Int32) (u9 : Unit) => r9 = iI (sumI f n)) (fun (u9 : Unit) => stC g a b d (n : Int) gr sp mg nm f h) 0 0 := by
  refine CI_of hfl (own := RX4) ⟨0, 0, 0, 0⟩ 1 22 0 (by decide +kernel) rfl rfl ⟨by decide, by decide, by decide +kernel⟩ ⟨by decide, by decide⟩ (le_ble rfl) (fun _ _ _ => rfl) ?_
  intro p e s m below meth c A Q F ret
  change J p l e _ s m _ below meth c A D _ Q 0 0 (stC g a b d (n : Int) gr sp mg nm f h) [(0, .ref a)] [] 0
  refine j_iconst F dX4_total_0 ?_
  refine j_istore_n F (lv' := [(1, .int (iI 0)), (0, .ref a)]) dX4_total_1 rfl (by decide) rfl ?_
  refine j_iconst F dX4_total_2 ?_
  refine j_istore_n F (lv' := [(2, .int (iI 0)), (1, .int (iI 0)), (0, .ref a)]) dX4_total_3 rfl (by decide) rfl ?_
  refine J.loc [0, 1, 2] rfl ?_
  refine J_loop (σ := Nat × Int) (fun x9 : Nat × Int => match x9 with | (i, acc) => acc = sumI f i ∧ i ≤ n) (fun x9 : Nat × Int => match x9 with | (i, acc) => n - i) (fun x9 : Nat × Int => match x9 with | (i, acc) => stC g a b d (n : Int) gr sp mg nm f h) (fun x9 : Nat × Int => match x9 with | (i, acc) => [(2, .int (iI (i : Int))), (1, .int (iI acc)), (0, .ref a)]) (0, 0) (by show 0 = sumI f 0 ∧ 0 ≤ n; exact ⟨rfl, by omega⟩) ?_
  rintro ⟨i, acc⟩ hI ih4
  have hI : acc = sumI f i ∧ i ≤ n := hI
  obtain ⟨h1, h2⟩ := hI
  refine j_iload_n F dX4_total_4 rfl 0 rfl ?_
  refine j_aload_n F dX4_total_5 rfl 2 rfl ?_
  refine j_getf F (ref := "CairnGame$State") (C := RX4) (T := TX4) (N := 7) (ci := 4) (index := 15) (v := .int (iI (n : Int))) (fun w h => (List.mem_cons_of_mem _ (List.mem_append_right _ h))) 0 rfl rfl 1 (by decide) (List.mem_cons_of_mem _ (List.mem_append_left _ (List.mem_of_getElem? (i := 0) rfl))) rfl rfl dX4_total_6 ?_
  refine j_icmp_ge F (tgt := 27) dX4_total_9 (by decide) ⟨(by unfold rg; omega), (by unfold rg; omega)⟩ (fun c9 => ?_) (fun c9 => ?_)
  · refine j_iload_n F dX4_total_27 rfl 1 rfl ?_
    exact ret _ () 0 0 _ _ dX4_total_28 (by decide) (by decide) (by rw [h1, show i = n by omega])
  · refine j_iload_n F dX4_total_12 rfl 1 rfl ?_
    refine j_aload_n F dX4_total_13 rfl 2 rfl ?_
    refine j_getf F (ref := "CairnGame$State") (C := RX4) (T := TX4) (N := 7) (ci := 4) (index := 9) (v := .ref b) (fun w h => (List.mem_cons_of_mem _ (List.mem_append_right _ h))) 0 rfl rfl 0 (by decide) (List.mem_cons_of_mem _ (List.mem_append_left _ (List.mem_of_getElem? (i := 1) rfl))) rfl rfl dX4_total_14 ?_
    refine j_iload_n F dX4_total_17 rfl 0 rfl ?_
    refine j_iald F 1 (n := 12) (f := f) rfl i (rfl) (by omega) (by decide) dX4_total_18 ?_
    refine j_iadd F dX4_total_19 ?_
    refine j_istore_n F (lv' := [(1, .int (iI (acc + f i))), (2, .int (iI (i : Int))), (0, .ref a)]) dX4_total_20 rfl (by decide) rfl ?_
    refine j_iinc F (lv' := [(2, .int (iI ((i : Int) + 1))), (1, .int (iI (acc + f i))), (0, .ref a)]) dX4_total_21 1 rfl (by decide) rfl ?_
    refine j_goto F (tgt := 4) dX4_total_24 (by decide) ?_
    refine J.loc [0, 1, 2] rfl ?_
    exact ih4 ((i + 1), (acc + f i)) (by show (acc + f i) = sumI f (i + 1) ∧ (i + 1) ≤ n; exact ⟨by rw [h1]; rfl, by omega⟩) (by show n - (i + 1) < n - i; omega)

set_option maxHeartbeats 4000000 in
set_option maxRecDepth 100000 in
theorem c_X4_slot {l : Launch} (hfl : l.flags = flags0) (D : va_G) (g : GT) (z : ZT) (a b d n : Nat) (gr sp mg nm : Int) (f h : Nat → Int) (hn : n ≤ 12) (hf : ∀ i, i < n → 0 ≤ f i ∧ f i ≤ 12) (hs : 0 ≤ sumW f n ∧ sumW f n < 1024) : CI l yX4_slot wsX4_slot 2 42 0 D g z [.ref a] (stC g a b d (n : Int) gr sp mg nm f h) (fun (r9 : Int32) (u9 : Unit) => r9 = iI (sumW f n)) (fun (u9 : Unit) => stC g a b d (n : Int) gr sp mg nm f h) 0 0 := by
  refine CI_of hfl (own := RX4) ⟨1, 0, 0, 20⟩ 2 42 0 (by decide +kernel) rfl rfl ⟨by decide, by decide, by decide +kernel⟩ ⟨by decide, by decide⟩ (le_ble rfl) (fun _ _ _ => rfl) ?_
  intro p e s m below meth c A Q F ret
  change J p l e _ s m _ below meth c A D _ Q 0 0 (stC g a b d (n : Int) gr sp mg nm f h) [(0, .ref a)] [] 0
  refine j_iconst F dX4_slot_0 ?_
  refine j_istore_n F (lv' := [(1, .int (iI 0)), (0, .ref a)]) dX4_slot_1 rfl (by decide) rfl ?_
  refine j_iconst F dX4_slot_2 ?_
  refine j_istore_n F (lv' := [(2, .int (iI 0)), (1, .int (iI 0)), (0, .ref a)]) dX4_slot_3 rfl (by decide) rfl ?_
  refine J.loc [0, 1, 2] rfl ?_
  refine J_loop (σ := Nat × Int) (fun x9 : Nat × Int => match x9 with | (i, acc) => acc = sumW f i ∧ i ≤ n) (fun x9 : Nat × Int => match x9 with | (i, acc) => n - i) (fun x9 : Nat × Int => match x9 with | (i, acc) => stC g a b d (n : Int) gr sp mg nm f h) (fun x9 : Nat × Int => match x9 with | (i, acc) => [(2, .int (iI (i : Int))), (1, .int (iI acc)), (0, .ref a)]) (0, 0) (by show 0 = sumW f 0 ∧ 0 ≤ n; exact ⟨rfl, by omega⟩) ?_
  rintro ⟨i, acc⟩ hI ih4
  have hI : acc = sumW f i ∧ i ≤ n := hI
  obtain ⟨h1, h2⟩ := hI
  refine j_iload_n F dX4_slot_4 rfl 0 rfl ?_
  refine j_aload_n F dX4_slot_5 rfl 2 rfl ?_
  refine j_getf F (ref := "CairnGame$State") (C := RX4) (T := TX4) (N := 7) (ci := 4) (index := 15) (v := .int (iI (n : Int))) (fun w h => (List.mem_cons_of_mem _ (List.mem_append_right _ h))) 0 rfl rfl 1 (by decide) (List.mem_cons_of_mem _ (List.mem_append_left _ (List.mem_of_getElem? (i := 0) rfl))) rfl rfl dX4_slot_6 ?_
  refine j_icmp_ge F (tgt := 30) dX4_slot_9 (by decide) ⟨(by unfold rg; omega), (by unfold rg; omega)⟩ (fun c9 => ?_) (fun c9 => ?_)
  · refine j_iload_n F dX4_slot_30 rfl 1 rfl ?_
    refine j_sipush F dX4_slot_31 (by decide) ?_
    refine j_iand1023 F dX4_slot_34 (by rw [h1, show i = n by omega]; exact hs) ?_
    exact ret _ () 0 0 _ _ dX4_slot_35 (by decide) (by decide) (by rw [h1, show i = n by omega])
  · refine j_iload_n F dX4_slot_12 rfl 1 rfl ?_
    refine j_aload_n F dX4_slot_13 rfl 2 rfl ?_
    refine j_getf F (ref := "CairnGame$State") (C := RX4) (T := TX4) (N := 7) (ci := 4) (index := 9) (v := .ref b) (fun w h => (List.mem_cons_of_mem _ (List.mem_append_right _ h))) 0 rfl rfl 0 (by decide) (List.mem_cons_of_mem _ (List.mem_append_left _ (List.mem_of_getElem? (i := 1) rfl))) rfl rfl dX4_slot_14 ?_
    refine j_iload_n F dX4_slot_17 rfl 0 rfl ?_
    refine j_iald F 1 (n := 12) (f := f) rfl i (rfl) (by omega) (by decide) dX4_slot_18 ?_
    refine j_callSN_I F (As := [.int (iI (f i))]) (wr := stC g a b d (n : Int) gr sp mg nm f h) (st := [.int (iI acc)]) (c_X6_weightOf hfl D g z (f i) (by have := hf i (by omega); unfold rg; omega)) (idx := 45) (host := RX6) gX4_slot_X6_weightOf_n45 (by unfold nestWs; simp) (List.mem_cons_of_mem _ (List.mem_append_left _ (List.mem_of_getElem? (i := 3) rfl))) (List.mem_cons_of_mem _ (List.mem_append_left _ (List.mem_of_getElem? (i := 2) rfl))) rfl [] [0, 1, 2] rfl rfl (by decide) (by decide) (by decide)  (by decide) (by decide) (le_ble rfl) ⟨by decide, by decide⟩ dX4_slot_19 ?_
    rintro r9 u9 rfl
    refine J.wsEq (ws2 := stC g a b d (n : Int) gr sp mg nm f h) rfl ?_
    refine j_iadd F dX4_slot_22 ?_
    refine j_istore_n F (lv' := [(1, .int (iI (acc + wtI (f i)))), (2, .int (iI (i : Int))), (0, .ref a)]) dX4_slot_23 rfl (by decide) rfl ?_
    refine j_iinc F (lv' := [(2, .int (iI ((i : Int) + 1))), (1, .int (iI (acc + wtI (f i)))), (0, .ref a)]) dX4_slot_24 1 rfl (by decide) rfl ?_
    refine j_goto F (tgt := 4) dX4_slot_27 (by decide) ?_
    refine J.loc [0, 1, 2] rfl ?_
    exact ih4 ((i + 1), (acc + wtI (f i))) (by show (acc + wtI (f i)) = sumW f (i + 1) ∧ (i + 1) ≤ n; exact ⟨by rw [h1]; rfl, by omega⟩) (by show n - (i + 1) < n - i; omega)

set_option maxHeartbeats 4000000 in
set_option maxRecDepth 100000 in
theorem c_X4_ruleSet {l : Launch} (hfl : l.flags = flags0) (D : va_G) (g : GT) (z : ZT) (a b d n : Nat) (gr sp mg nm : Int) (f h : Nat → Int) (hsp : sp = 0 ∨ sp = 1) (hmg : mg = 0 ∨ mg = 1) : CI l yX4_ruleSet wsX4_ruleSet 2 40 0 D g z [.ref a] (stC g a b d (n : Int) gr sp mg nm f h) (fun (r9 : Int32) (u9 : Unit) => r9 = iI ((gr - 1) * 4 + sp * 2 + mg)) (fun (u9 : Unit) => stC g a b d (n : Int) gr sp mg nm f h) 0 0 := by
  refine CI_of hfl (own := RX4) ⟨1, 0, 0, 20⟩ 2 40 0 (by decide +kernel) rfl rfl ⟨by decide, by decide, by decide +kernel⟩ ⟨by decide, by decide⟩ (le_ble rfl) (fun _ _ _ => rfl) ?_
  intro p e s m below meth c A Q F ret
  change J p l e _ s m _ below meth c A D _ Q 0 0 (stC g a b d (n : Int) gr sp mg nm f h) [(0, .ref a)] [] 0
  refine j_aload_n F dX4_ruleSet_0 rfl 0 rfl ?_
  refine j_getf F (ref := "CairnGame$State") (C := RX4) (T := TX4) (N := 7) (ci := 4) (index := 19) (v := .int (iI gr)) (fun w h => (List.mem_cons_of_mem _ (List.mem_append_right _ h))) 0 rfl rfl 2 (by decide) (List.mem_cons_of_mem _ (List.mem_append_left _ (List.mem_of_getElem? (i := 0) rfl))) rfl rfl dX4_ruleSet_1 ?_
  refine j_iconst F dX4_ruleSet_4 ?_
  refine j_isub F dX4_ruleSet_5 ?_
  refine j_iconst F dX4_ruleSet_6 ?_
  refine j_imul F dX4_ruleSet_7 ?_
  refine j_aload_n F dX4_ruleSet_8 rfl 0 rfl ?_
  refine j_getf F (ref := "CairnGame$State") (C := RX4) (T := TX4) (N := 7) (ci := 4) (index := 22) (v := .int (iI sp)) (fun w h => (List.mem_cons_of_mem _ (List.mem_append_right _ h))) 0 rfl rfl 3 (by decide) (List.mem_cons_of_mem _ (List.mem_append_left _ (List.mem_of_getElem? (i := 1) rfl))) rfl rfl dX4_ruleSet_9 ?_
  refine j_callSN_I F (As := [.int (iI sp)]) (wr := stC g a b d (n : Int) gr sp mg nm f h) (st := [.int (iI ((gr - 1) * 4))]) (c_X6_bit hfl D g z sp hsp) (idx := 49) (host := RX6) gX4_ruleSet_X6_bit_n49 (by unfold nestWs; simp) (List.mem_cons_of_mem _ (List.mem_append_left _ (List.mem_of_getElem? (i := 4) rfl))) (List.mem_cons_of_mem _ (List.mem_append_left _ (List.mem_of_getElem? (i := 3) rfl))) rfl [] [0, 1, 2] rfl rfl (by decide) (by decide) (by decide)  (by decide) (by decide) (le_ble rfl) ⟨by decide, by decide⟩ dX4_ruleSet_12 ?_
  rintro r9 u9 rfl
  refine J.wsEq (ws2 := stC g a b d (n : Int) gr sp mg nm f h) rfl ?_
  refine j_iconst F dX4_ruleSet_15 ?_
  refine j_imul F dX4_ruleSet_16 ?_
  refine j_iadd F dX4_ruleSet_17 ?_
  refine j_aload_n F dX4_ruleSet_18 rfl 0 rfl ?_
  refine j_getf F (ref := "CairnGame$State") (C := RX4) (T := TX4) (N := 7) (ci := 4) (index := 26) (v := .int (iI mg)) (fun w h => (List.mem_cons_of_mem _ (List.mem_append_right _ h))) 0 rfl rfl 4 (by decide) (List.mem_cons_of_mem _ (List.mem_append_left _ (List.mem_of_getElem? (i := 2) rfl))) rfl rfl dX4_ruleSet_19 ?_
  refine j_callSN_I F (As := [.int (iI mg)]) (wr := stC g a b d (n : Int) gr sp mg nm f h) (st := [.int (iI (((gr - 1) * 4) + (sp * 2)))]) (c_X6_bit hfl D g z mg hmg) (idx := 49) (host := RX6) gX4_ruleSet_X6_bit_n49 (by unfold nestWs; simp) (List.mem_cons_of_mem _ (List.mem_append_left _ (List.mem_of_getElem? (i := 4) rfl))) (List.mem_cons_of_mem _ (List.mem_append_left _ (List.mem_of_getElem? (i := 3) rfl))) rfl [] [0, 1, 2] rfl rfl (by decide) (by decide) (by decide)  (by decide) (by decide) (le_ble rfl) ⟨by decide, by decide⟩ dX4_ruleSet_22 ?_
  rintro r9 u9 rfl
  refine J.wsEq (ws2 := stC g a b d (n : Int) gr sp mg nm f h) rfl ?_
  refine j_iadd F dX4_ruleSet_25 ?_
  exact ret _ () 0 0 _ _ dX4_ruleSet_26 (by decide) (by decide) rfl

/-- a move of the kind k at the heap x, by the rules: what isMove answers -/
abbrev isMv (n : Nat) (gr sp mg : Int) (f : Nat → Int) (k x t : Int) : Prop := (0 ≤ x ∧ x < (n : Int)) ∧ (if k = 0 then 1 ≤ t ∧ t ≤ gr ∧ t ≤ f x.toNat else if k = 1 then sp = 1 ∧ 1 ≤ t ∧ t ≤ f x.toNat - t else mg = 1 ∧ (0 ≤ t ∧ t < (n : Int)) ∧ ¬ x = t)

set_option maxHeartbeats 4000000 in
set_option maxRecDepth 100000 in
theorem c_X4_isMove {l : Launch} (hfl : l.flags = flags0) (D : va_G) (g : GT) (z : ZT) (a b d n : Nat) (gr sp mg nm : Int) (f h : Nat → Int) (k x t : Int) (hn : n ≤ 12) (hf : ∀ i, i < n → 0 ≤ f i ∧ f i ≤ 12) (hgr : 1 ≤ gr ∧ gr ≤ 5) (hsp : sp = 0 ∨ sp = 1) (hmg : mg = 0 ∨ mg = 1) (hk : rg k) (hx : rg x) (ht : rg t) : CI l yX4_isMove wsX4_isMove 2 44 3 D g z [.ref a, .int (iI k), .int (iI x), .int (iI t)] (stC g a b d (n : Int) gr sp mg nm f h) (fun (r9 : Int32) (u9 : Unit) => r9 = iI (b2 (isMv n gr sp mg f k x t))) (fun (u9 : Unit) => stC g a b d (n : Int) gr sp mg nm f h) 0 0 := by
  refine CI_of hfl (own := RX4) ⟨1, 0, 0, 21⟩ 2 44 3 (by decide +kernel) rfl rfl ⟨by decide, by decide, by decide +kernel⟩ ⟨by decide, by decide⟩ (le_ble rfl) (fun _ _ h => nar_b2 h) ?_
  intro p e s m below meth c A Q F ret
  change J p l e _ s m _ below meth c A D _ Q 0 0 (stC g a b d (n : Int) gr sp mg nm f h) [(0, .ref a), (1, .int (iI k)), (2, .int (iI x)), (3, .int (iI t))] [] 0
  refine j_aload_n F dX4_isMove_0 rfl 0 rfl ?_
  refine j_iload_n F dX4_isMove_1 rfl 2 rfl ?_
  refine j_callV_I F (As := [.int (iI x)]) (wr := []) (st := []) (c_X4_hasHeap hfl D g z a b d n gr sp mg nm f h x hn hx) (idx := 41) (C := RX4) gX4_isMove_X4_hasHeap rfl rfl [0, 1, 2] [] rfl rfl (by decide) (by decide) (by decide) (ci := 4) (q0 := 0) rfl rfl (by decide) (by decide) (le_ble rfl) ⟨by decide, by decide⟩ dX4_isMove_2 ?_
  rintro r9 u9 rfl
  refine J.wsEq (ws2 := stC g a b d (n : Int) gr sp mg nm f h) rfl ?_
  refine j_ifb_ne F (tgt := 10) dX4_isMove_5 (by decide)  (fun c5 => ?_) (fun c5 => ?_)
  · refine j_iload_n F dX4_isMove_10 rfl 1 rfl ?_
    refine j_if_ne F (tgt := 43) dX4_isMove_11 (by decide) (hk) (fun c11 => ?_) (fun c11 => ?_)
    · refine j_iload_n F dX4_isMove_43 rfl 1 rfl ?_
      refine j_iconst F dX4_isMove_44 ?_
      refine j_icmp_ne F (tgt := 78) dX4_isMove_45 (by decide) ⟨(by unfold rg at *; omega), (by unfold rg; omega)⟩ (fun c45 => ?_) (fun c45 => ?_)
      · refine j_aload_n F dX4_isMove_78 rfl 0 rfl ?_
        refine j_getf F (ref := "CairnGame$State") (C := RX4) (T := TX4) (N := 7) (ci := 4) (index := 26) (v := .int (iI mg)) (fun w h => (List.mem_cons_of_mem _ (List.mem_append_right _ h))) 0 rfl rfl 4 (by decide) (List.mem_cons_of_mem _ (List.mem_append_left _ (List.mem_of_getElem? (i := 3) rfl))) rfl rfl dX4_isMove_79 ?_
        refine j_if_eq F (tgt := 102) dX4_isMove_82 (by decide) (by unfold rg; omega) (fun c82 => ?_) (fun c82 => ?_)
        · refine j_iconst F dX4_isMove_102 ?_
          exact ret _ () 0 0 _ _ dX4_isMove_103 (by decide) (by decide) (by first | (refine congrArg iI (Eq.symm (b2_t ?_)); refine ⟨⟨by omega, by omega⟩, ?_⟩; (repeat' split) <;> omega) | (refine congrArg iI (Eq.symm (b2_f ?_)); rintro ⟨h8, h9⟩; revert h9; (repeat' split) <;> omega))
        · refine j_aload_n F dX4_isMove_85 rfl 0 rfl ?_
          refine j_iload_n F dX4_isMove_86 rfl 3 rfl ?_
          refine j_callV_I F (As := [.int (iI t)]) (wr := []) (st := []) (c_X4_hasHeap hfl D g z a b d n gr sp mg nm f h t hn ht) (idx := 41) (C := RX4) gX4_isMove_X4_hasHeap rfl rfl [0, 1, 2] [] rfl rfl (by decide) (by decide) (by decide) (ci := 4) (q0 := 0) rfl rfl (by decide) (by decide) (le_ble rfl) ⟨by decide, by decide⟩ dX4_isMove_87 ?_
          rintro r9 u9 rfl
          refine J.wsEq (ws2 := stC g a b d (n : Int) gr sp mg nm f h) rfl ?_
          refine j_ifb_eq F (tgt := 102) dX4_isMove_90 (by decide)  (fun c90 => ?_) (fun c90 => ?_)
          · refine j_iconst F dX4_isMove_102 ?_
            exact ret _ () 0 0 _ _ dX4_isMove_103 (by decide) (by decide) (by first | (refine congrArg iI (Eq.symm (b2_t ?_)); refine ⟨⟨by omega, by omega⟩, ?_⟩; (repeat' split) <;> omega) | (refine congrArg iI (Eq.symm (b2_f ?_)); rintro ⟨h8, h9⟩; revert h9; (repeat' split) <;> omega))
          · refine j_iload_n F dX4_isMove_93 rfl 2 rfl ?_
            refine j_iload_n F dX4_isMove_94 rfl 3 rfl ?_
            refine j_icmp_eq F (tgt := 102) dX4_isMove_95 (by decide) ⟨(by unfold rg at *; omega), (by unfold rg at *; omega)⟩ (fun c95 => ?_) (fun c95 => ?_)
            · refine j_iconst F dX4_isMove_102 ?_
              exact ret _ () 0 0 _ _ dX4_isMove_103 (by decide) (by decide) (by first | (refine congrArg iI (Eq.symm (b2_t ?_)); refine ⟨⟨by omega, by omega⟩, ?_⟩; (repeat' split) <;> omega) | (refine congrArg iI (Eq.symm (b2_f ?_)); rintro ⟨h8, h9⟩; revert h9; (repeat' split) <;> omega))
            · refine j_iconst F dX4_isMove_98 ?_
              refine j_goto F (tgt := 103) dX4_isMove_99 (by decide) ?_
              exact ret _ () 0 0 _ _ dX4_isMove_103 (by decide) (by decide) (by first | (refine congrArg iI (Eq.symm (b2_t ?_)); refine ⟨⟨by omega, by omega⟩, ?_⟩; (repeat' split) <;> omega) | (refine congrArg iI (Eq.symm (b2_f ?_)); rintro ⟨h8, h9⟩; revert h9; (repeat' split) <;> omega))
      · refine j_aload_n F dX4_isMove_48 rfl 0 rfl ?_
        refine j_getf F (ref := "CairnGame$State") (C := RX4) (T := TX4) (N := 7) (ci := 4) (index := 22) (v := .int (iI sp)) (fun w h => (List.mem_cons_of_mem _ (List.mem_append_right _ h))) 0 rfl rfl 3 (by decide) (List.mem_cons_of_mem _ (List.mem_append_left _ (List.mem_of_getElem? (i := 2) rfl))) rfl rfl dX4_isMove_49 ?_
        refine j_if_eq F (tgt := 76) dX4_isMove_52 (by decide) (by unfold rg; omega) (fun c52 => ?_) (fun c52 => ?_)
        · refine j_iconst F dX4_isMove_76 ?_
          exact ret _ () 0 0 _ _ dX4_isMove_77 (by decide) (by decide) (by first | (refine congrArg iI (Eq.symm (b2_t ?_)); refine ⟨⟨by omega, by omega⟩, ?_⟩; (repeat' split) <;> omega) | (refine congrArg iI (Eq.symm (b2_f ?_)); rintro ⟨h8, h9⟩; revert h9; (repeat' split) <;> omega))
        · refine j_iload_n F dX4_isMove_55 rfl 3 rfl ?_
          refine j_iconst F dX4_isMove_56 ?_
          refine j_icmp_lt F (tgt := 76) dX4_isMove_57 (by decide) ⟨(by unfold rg at *; omega), (by unfold rg; omega)⟩ (fun c57 => ?_) (fun c57 => ?_)
          · refine j_iconst F dX4_isMove_76 ?_
            exact ret _ () 0 0 _ _ dX4_isMove_77 (by decide) (by decide) (by first | (refine congrArg iI (Eq.symm (b2_t ?_)); refine ⟨⟨by omega, by omega⟩, ?_⟩; (repeat' split) <;> omega) | (refine congrArg iI (Eq.symm (b2_f ?_)); rintro ⟨h8, h9⟩; revert h9; (repeat' split) <;> omega))
          · refine j_iload_n F dX4_isMove_60 rfl 3 rfl ?_
            have hfx := hf x.toNat (by omega)
            refine j_aload_n F dX4_isMove_61 rfl 0 rfl ?_
            refine j_getf F (ref := "CairnGame$State") (C := RX4) (T := TX4) (N := 7) (ci := 4) (index := 9) (v := .ref b) (fun w h => (List.mem_cons_of_mem _ (List.mem_append_right _ h))) 0 rfl rfl 0 (by decide) (List.mem_cons_of_mem _ (List.mem_append_left _ (List.mem_of_getElem? (i := 1) rfl))) rfl rfl dX4_isMove_62 ?_
            refine j_iload_n F dX4_isMove_65 rfl 2 rfl ?_
            refine j_iald F 1 (n := 12) (f := f) rfl ((x).toNat) (by omega) (by omega) (by decide) dX4_isMove_66 ?_
            refine j_iload_n F dX4_isMove_67 rfl 3 rfl ?_
            refine j_isub F dX4_isMove_68 ?_
            refine j_icmp_gt F (tgt := 76) dX4_isMove_69 (by decide) ⟨(by unfold rg at *; omega), (by unfold rg at *; omega)⟩ (fun c69 => ?_) (fun c69 => ?_)
            · refine j_iconst F dX4_isMove_76 ?_
              exact ret _ () 0 0 _ _ dX4_isMove_77 (by decide) (by decide) (by first | (refine congrArg iI (Eq.symm (b2_t ?_)); refine ⟨⟨by omega, by omega⟩, ?_⟩; (repeat' split) <;> omega) | (refine congrArg iI (Eq.symm (b2_f ?_)); rintro ⟨h8, h9⟩; revert h9; (repeat' split) <;> omega))
            · refine j_iconst F dX4_isMove_72 ?_
              refine j_goto F (tgt := 77) dX4_isMove_73 (by decide) ?_
              exact ret _ () 0 0 _ _ dX4_isMove_77 (by decide) (by decide) (by first | (refine congrArg iI (Eq.symm (b2_t ?_)); refine ⟨⟨by omega, by omega⟩, ?_⟩; (repeat' split) <;> omega) | (refine congrArg iI (Eq.symm (b2_f ?_)); rintro ⟨h8, h9⟩; revert h9; (repeat' split) <;> omega))
    · refine j_iload_n F dX4_isMove_14 rfl 3 rfl ?_
      refine j_iconst F dX4_isMove_15 ?_
      refine j_icmp_lt F (tgt := 41) dX4_isMove_16 (by decide) ⟨(by unfold rg at *; omega), (by unfold rg; omega)⟩ (fun c16 => ?_) (fun c16 => ?_)
      · refine j_iconst F dX4_isMove_41 ?_
        exact ret _ () 0 0 _ _ dX4_isMove_42 (by decide) (by decide) (by first | (refine congrArg iI (Eq.symm (b2_t ?_)); refine ⟨⟨by omega, by omega⟩, ?_⟩; (repeat' split) <;> omega) | (refine congrArg iI (Eq.symm (b2_f ?_)); rintro ⟨h8, h9⟩; revert h9; (repeat' split) <;> omega))
      · refine j_iload_n F dX4_isMove_19 rfl 3 rfl ?_
        refine j_aload_n F dX4_isMove_20 rfl 0 rfl ?_
        refine j_getf F (ref := "CairnGame$State") (C := RX4) (T := TX4) (N := 7) (ci := 4) (index := 19) (v := .int (iI gr)) (fun w h => (List.mem_cons_of_mem _ (List.mem_append_right _ h))) 0 rfl rfl 2 (by decide) (List.mem_cons_of_mem _ (List.mem_append_left _ (List.mem_of_getElem? (i := 0) rfl))) rfl rfl dX4_isMove_21 ?_
        refine j_icmp_gt F (tgt := 41) dX4_isMove_24 (by decide) ⟨(by unfold rg at *; omega), (by unfold rg at *; omega)⟩ (fun c24 => ?_) (fun c24 => ?_)
        · refine j_iconst F dX4_isMove_41 ?_
          exact ret _ () 0 0 _ _ dX4_isMove_42 (by decide) (by decide) (by first | (refine congrArg iI (Eq.symm (b2_t ?_)); refine ⟨⟨by omega, by omega⟩, ?_⟩; (repeat' split) <;> omega) | (refine congrArg iI (Eq.symm (b2_f ?_)); rintro ⟨h8, h9⟩; revert h9; (repeat' split) <;> omega))
        · refine j_iload_n F dX4_isMove_27 rfl 3 rfl ?_
          have hfx := hf x.toNat (by omega)
          refine j_aload_n F dX4_isMove_28 rfl 0 rfl ?_
          refine j_getf F (ref := "CairnGame$State") (C := RX4) (T := TX4) (N := 7) (ci := 4) (index := 9) (v := .ref b) (fun w h => (List.mem_cons_of_mem _ (List.mem_append_right _ h))) 0 rfl rfl 0 (by decide) (List.mem_cons_of_mem _ (List.mem_append_left _ (List.mem_of_getElem? (i := 1) rfl))) rfl rfl dX4_isMove_29 ?_
          refine j_iload_n F dX4_isMove_32 rfl 2 rfl ?_
          refine j_iald F 1 (n := 12) (f := f) rfl ((x).toNat) (by omega) (by omega) (by decide) dX4_isMove_33 ?_
          refine j_icmp_gt F (tgt := 41) dX4_isMove_34 (by decide) ⟨(by unfold rg at *; omega), (by unfold rg at *; omega)⟩ (fun c34 => ?_) (fun c34 => ?_)
          · refine j_iconst F dX4_isMove_41 ?_
            exact ret _ () 0 0 _ _ dX4_isMove_42 (by decide) (by decide) (by first | (refine congrArg iI (Eq.symm (b2_t ?_)); refine ⟨⟨by omega, by omega⟩, ?_⟩; (repeat' split) <;> omega) | (refine congrArg iI (Eq.symm (b2_f ?_)); rintro ⟨h8, h9⟩; revert h9; (repeat' split) <;> omega))
          · refine j_iconst F dX4_isMove_37 ?_
            refine j_goto F (tgt := 42) dX4_isMove_38 (by decide) ?_
            exact ret _ () 0 0 _ _ dX4_isMove_42 (by decide) (by decide) (by first | (refine congrArg iI (Eq.symm (b2_t ?_)); refine ⟨⟨by omega, by omega⟩, ?_⟩; (repeat' split) <;> omega) | (refine congrArg iI (Eq.symm (b2_f ?_)); rintro ⟨h8, h9⟩; revert h9; (repeat' split) <;> omega))
  · refine j_iconst F dX4_isMove_8 ?_
    exact ret _ () 0 0 _ _ dX4_isMove_9 (by decide) (by decide) (by first | (refine congrArg iI (Eq.symm (b2_t ?_)); refine ⟨⟨by omega, by omega⟩, ?_⟩; (repeat' split) <;> omega) | (refine congrArg iI (Eq.symm (b2_f ?_)); rintro ⟨h8, h9⟩; revert h9; (repeat' split) <;> omega))

/-- the row behind an insertion, on its way and done; behind a removal, on its way and done -/
def shF (f : Nat → Int) (n j : Nat) : Nat → Int := fun i => if j < i ∧ i ≤ n then f (i - 1) else f i
def insF (f : Nat → Int) (n q : Nat) (v : Int) : Nat → Int := fun i => if i = q then v else if q < i ∧ i ≤ n then f (i - 1) else f i
def rmP (f : Nat → Int) (q i : Nat) : Nat → Int := fun j => if q ≤ j ∧ j < i then f (j + 1) else f j
def rmF (f : Nat → Int) (n q : Nat) : Nat → Int := rmP f q (n - 1)
theorem shF_0 (f : Nat → Int) (n : Nat) : shF f n n = f := by
  funext i
  unfold shF
  rw [if_neg (by omega)]
theorem shF_s (f : Nat → Int) {n j : Nat} (h : j + 1 ≤ n) : nup (shF f n (j + 1)) (j + 1) (shF f n (j + 1) j) = shF f n j := by
  funext i
  unfold nup shF
  by_cases h1 : i = j + 1
  · subst h1
    rw [if_pos rfl, if_neg (by omega), if_pos (by omega)]
    rfl
  · rw [if_neg h1]
    by_cases h2 : j + 1 < i ∧ i ≤ n
    · rw [if_pos h2, if_pos (by omega)]
    · rw [if_neg h2, if_neg (by omega)]
theorem shF_sI (f : Nat → Int) {n : Nat} {j : Int} (h : 1 ≤ j) (h2 : j ≤ n) : nup (shF f n j.toNat) j.toNat (shF f n j.toNat (j - 1).toNat) = shF f n (j + (-1)).toNat := by
  obtain ⟨J9, rfl⟩ : ∃ J9 : Nat, j = (J9 : Int) + 1 := ⟨(j - 1).toNat, by omega⟩
  have e1 : ((J9 : Int) + 1).toNat = J9 + 1 := by omega
  have e2 : (((J9 : Int) + 1) - 1).toNat = J9 := by omega
  have e3 : (((J9 : Int) + 1) + (-1)).toNat = J9 := by omega
  rw [e1, e2, e3]
  exact shF_s f (by omega)
theorem shF_e (f : Nat → Int) (n q : Nat) (v : Int) : nup (shF f n q) q v = insF f n q v := rfl
theorem rmP_0 (f : Nat → Int) (q : Nat) : rmP f q q = f := by
  funext j
  unfold rmP
  rw [if_neg (by omega)]
theorem rmP_s (f : Nat → Int) {q i : Nat} (h : q ≤ i) : nup (rmP f q i) i (rmP f q i (i + 1)) = rmP f q (i + 1) := by
  funext j
  unfold nup rmP
  by_cases h1 : j = i
  · subst h1
    rw [if_pos rfl, if_neg (by omega), if_pos (by omega)]
  · rw [if_neg h1]
    by_cases h2 : q ≤ j ∧ j < i
    · rw [if_pos h2, if_pos (by omega)]
    · rw [if_neg h2, if_neg (by omega)]
def shkF (n : Nat) (f : Nat → Int) (q : Nat) (t : Int) : Nat × NF := if f q - t = 0 then (n - 1, rmF (nup f q (f q - t)) n q) else (n, nup f q (f q - t))
def mrgF (n : Nat) (f : Nat → Int) (q w : Nat) : Nat × NF := (n - 1, rmF (nup f (min q w) (f q + f w - 1)) n (max q w))
def coF (n : Nat) (f : Nat → Int) (k q : Nat) (t : Int) : Nat × NF := if k = 0 then shkF n f q t else if k = 1 then (n + 1, nup (insF f n (q + 1) (f q - t)) q t) else mrgF n f q t.toNat
def zrF (h : Nat → Int) (i : Nat) : Nat → Int := fun j => if j < i then 0 else h j
theorem zrF_0 (h : Nat → Int) : zrF h 0 = h := by funext j; unfold zrF; rw [if_neg (by omega)]
theorem zrF_s (h : Nat → Int) (i : Nat) : nup (zrF h i) i 0 = zrF h (i + 1) := by
  funext j
  unfold nup zrF
  by_cases h1 : j = i
  · subst h1; rw [if_pos rfl, if_pos (by omega)]
  · rw [if_neg h1]
    by_cases h2 : j < i
    · rw [if_pos h2, if_pos (by omega)]
    · rw [if_neg h2, if_neg (by omega)]

set_option maxHeartbeats 4000000 in
set_option maxRecDepth 100000 in
theorem c_X4_insert {l : Launch} (hfl : l.flags = flags0) (D : va_G) (g : GT) (z : ZT) (a b d n : Nat) (gr sp mg nm : Int) (f h : Nat → Int) (q : Nat) (v : Int) (hq : q ≤ n) (hn : n < 12)  : CV l yX4_insert wsX4_insert 1 23 2 D g z [.ref a, .int (iI (q : Int)), .int (iI v)] (stC g a b d (n : Int) gr sp mg nm f h) (fun (u9 : Unit) => True) (fun (u9 : Unit) => stC g a b d ((n : Int) + 1) gr sp mg nm (insF f n q v) h) 0 0 := by
  refine CV_of hfl (own := RX4) ⟨0, 0, 0, 0⟩ 1 23 2 (by decide +kernel) rfl rfl ⟨by decide, by decide, by decide +kernel⟩ ⟨by decide, by decide⟩ (le_ble rfl) ?_
  intro p e s m below meth c A Q F hin ret
  change J p l e _ s m _ below meth c A D _ Q 0 0 (stC g a b d (n : Int) gr sp mg nm f h) [(0, .ref a), (1, .int (iI (q : Int))), (2, .int (iI v))] [] 0
  refine j_iload_n F dX4_insert_0 rfl 1 rfl ?_
  refine j_if_lt F (tgt := 21) dX4_insert_1 (by decide) (by unfold rg; omega) (fun h9 => absurd h9 (by omega)) (fun c1 => ?_)
  refine j_iload_n F dX4_insert_4 rfl 1 rfl ?_
  refine j_aload_n F dX4_insert_5 rfl 0 rfl ?_
  refine j_getf F (ref := "CairnGame$State") (C := RX4) (T := TX4) (N := 7) (ci := 4) (index := 15) (v := .int (iI (n : Int))) (fun w h => (List.mem_cons_of_mem _ (List.mem_append_right _ h))) 0 rfl rfl 1 (by decide) (List.mem_cons_of_mem _ (List.mem_append_left _ (List.mem_of_getElem? (i := 0) rfl))) rfl rfl dX4_insert_6 ?_
  refine j_icmp_gt F (tgt := 21) dX4_insert_9 (by decide) ⟨(by unfold rg; omega), (by unfold rg; omega)⟩ (fun h9 => absurd h9 (by omega)) (fun c9 => ?_)
  refine j_aload_n F dX4_insert_12 rfl 0 rfl ?_
  refine j_getf F (ref := "CairnGame$State") (C := RX4) (T := TX4) (N := 7) (ci := 4) (index := 15) (v := .int (iI (n : Int))) (fun w h => (List.mem_cons_of_mem _ (List.mem_append_right _ h))) 0 rfl rfl 1 (by decide) (List.mem_cons_of_mem _ (List.mem_append_left _ (List.mem_of_getElem? (i := 0) rfl))) rfl rfl dX4_insert_13 ?_
  refine j_bipush F dX4_insert_16 (by decide) ?_
  refine j_icmp_lt F (tgt := 22) dX4_insert_18 (by decide) ⟨(by unfold rg; omega), (by unfold rg; omega)⟩ (fun c18 => ?_) (fun h9 => absurd (by omega) h9)
  refine j_aload_n F dX4_insert_22 rfl 0 rfl ?_
  refine j_getf F (ref := "CairnGame$State") (C := RX4) (T := TX4) (N := 7) (ci := 4) (index := 15) (v := .int (iI (n : Int))) (fun w h => (List.mem_cons_of_mem _ (List.mem_append_right _ h))) 0 rfl rfl 1 (by decide) (List.mem_cons_of_mem _ (List.mem_append_left _ (List.mem_of_getElem? (i := 0) rfl))) rfl rfl dX4_insert_23 ?_
  refine j_istore_n F (lv' := [(3, .int (iI (n : Int))), (0, .ref a), (1, .int (iI (q : Int))), (2, .int (iI v))]) dX4_insert_26 rfl (by decide) rfl ?_
  refine J.loc [0, 1, 2, 3] rfl ?_
  refine J_loop (σ := Int × (Nat → Int)) (fun x9 : Int × (Nat → Int) => match x9 with | (j, G) => ((q : Int) ≤ j ∧ j ≤ (n : Int)) ∧ G = shF f n (j).toNat) (fun x9 : Int × (Nat → Int) => match x9 with | (j, G) => (j).toNat) (fun x9 : Int × (Nat → Int) => match x9 with | (j, G) => stC g a b d (n : Int) gr sp mg nm G h) (fun x9 : Int × (Nat → Int) => match x9 with | (j, G) => [(3, .int (iI j)), (0, .ref a), (1, .int (iI (q : Int))), (2, .int (iI v))]) ((n : Int), f) (by show ((q : Int) ≤ (n : Int) ∧ (n : Int) ≤ (n : Int)) ∧ f = shF f n ((n : Int)).toNat; exact ⟨by omega, by rw [show ((n : Int)).toNat = n from by omega, shF_0]⟩) ?_
  rintro ⟨j, G⟩ hI ih27
  have hI : ((q : Int) ≤ j ∧ j ≤ (n : Int)) ∧ G = shF f n (j).toNat := hI
  obtain ⟨⟨h1, h2⟩, h3⟩ := hI
  refine j_iload_n F dX4_insert_27 rfl 0 rfl ?_
  refine j_iload_n F dX4_insert_28 rfl 2 rfl ?_
  refine j_icmp_le F (tgt := 52) dX4_insert_29 (by decide) ⟨(by unfold rg; omega), (by unfold rg; omega)⟩ (fun c29 => ?_) (fun c29 => ?_)
  · have e9 : j.toNat = q := by omega
    refine J.wsEq (ws2 := stC g a b d (n : Int) gr sp mg nm (shF f n q) h) (by rw [h3, e9]) ?_
    refine j_aload_n F dX4_insert_52 rfl 1 rfl ?_
    refine j_getf F (ref := "CairnGame$State") (C := RX4) (T := TX4) (N := 7) (ci := 4) (index := 9) (v := .ref b) (fun w h => (List.mem_cons_of_mem _ (List.mem_append_right _ h))) 0 rfl rfl 0 (by decide) (List.mem_cons_of_mem _ (List.mem_append_left _ (List.mem_of_getElem? (i := 1) rfl))) rfl rfl dX4_insert_53 ?_
    refine j_iload_n F dX4_insert_56 rfl 2 rfl ?_
    refine j_iload_n F dX4_insert_57 rfl 3 rfl ?_
    refine j_iast F (ws' := stC g a b d (n : Int) gr sp mg nm (nup (shF f n q) q v) h) 1 (n := 12) (f := (shF f n q)) rfl q (rfl) (by omega) (by decide) rfl dX4_insert_58 ?_
    refine j_aload_n F dX4_insert_59 rfl 1 rfl ?_
    refine j_dup F dX4_insert_60 rfl ?_
    refine j_getf F (ref := "CairnGame$State") (C := RX4) (T := TX4) (N := 7) (ci := 4) (index := 15) (v := .int (iI (n : Int))) (fun w h => (List.mem_cons_of_mem _ (List.mem_append_right _ h))) 0 rfl rfl 1 (by decide) (List.mem_cons_of_mem _ (List.mem_append_left _ (List.mem_of_getElem? (i := 0) rfl))) rfl rfl dX4_insert_61 ?_
    refine j_iconst F dX4_insert_64 ?_
    refine j_iadd F dX4_insert_65 ?_
    refine j_putf F (ref := "CairnGame$State") (C := RX4) (T := TX4) (N := 7) (ci := 4) (index := 15) (ty := .int) (ws' := stC g a b d ((n : Int) + 1) gr sp mg nm (nup (shF f n q) q v) h) (fun w h => (List.mem_cons_of_mem _ (List.mem_append_right _ h))) tyX4 tyX4_ok nmX4 0 rfl rfl 1 (by decide) (List.mem_cons_of_mem _ (List.mem_append_left _ (List.mem_of_getElem? (i := 0) rfl))) rfl rfl rfl rfl rfl (lt_ble rfl) rfl dX4_insert_66 ?_
    exact ret () 0 0 _ _ dX4_insert_69 (by decide) (by decide) trivial
  · refine j_aload_n F dX4_insert_32 rfl 1 rfl ?_
    refine j_getf F (ref := "CairnGame$State") (C := RX4) (T := TX4) (N := 7) (ci := 4) (index := 9) (v := .ref b) (fun w h => (List.mem_cons_of_mem _ (List.mem_append_right _ h))) 0 rfl rfl 0 (by decide) (List.mem_cons_of_mem _ (List.mem_append_left _ (List.mem_of_getElem? (i := 1) rfl))) rfl rfl dX4_insert_33 ?_
    refine j_iload_n F dX4_insert_36 rfl 0 rfl ?_
    refine j_aload_n F dX4_insert_37 rfl 1 rfl ?_
    refine j_getf F (ref := "CairnGame$State") (C := RX4) (T := TX4) (N := 7) (ci := 4) (index := 9) (v := .ref b) (fun w h => (List.mem_cons_of_mem _ (List.mem_append_right _ h))) 0 rfl rfl 0 (by decide) (List.mem_cons_of_mem _ (List.mem_append_left _ (List.mem_of_getElem? (i := 1) rfl))) rfl rfl dX4_insert_38 ?_
    refine j_iload_n F dX4_insert_41 rfl 0 rfl ?_
    refine j_iconst F dX4_insert_42 ?_
    refine j_isub F dX4_insert_43 ?_
    refine j_iald F 1 (n := 12) (f := G) rfl (((j - 1)).toNat) (by omega) (by omega) (by decide) dX4_insert_44 ?_
    refine j_iast F (ws' := stC g a b d (n : Int) gr sp mg nm (nup G ((j).toNat) (G (((j - 1)).toNat))) h) 1 (n := 12) (f := G) rfl ((j).toNat) (by omega) (by omega) (by decide) rfl dX4_insert_45 ?_
    refine j_iinc F (lv' := [(3, .int (iI (j + (-1)))), (0, .ref a), (1, .int (iI (q : Int))), (2, .int (iI v))]) dX4_insert_46 0 rfl (by decide) rfl ?_
    refine j_goto F (tgt := 27) dX4_insert_49 (by decide) ?_
    refine J.loc [0, 1, 2, 3] rfl ?_
    exact ih27 ((j + (-1)), nup G (j).toNat (G ((j - 1)).toNat)) (by show ((q : Int) ≤ (j + (-1)) ∧ (j + (-1)) ≤ (n : Int)) ∧ (nup G (j).toNat (G ((j - 1)).toNat)) = shF f n ((j + (-1))).toNat; exact ⟨by omega, by rw [h3]; exact shF_sI f (by omega) (by omega)⟩) (by show ((j + (-1))).toNat < (j).toNat; omega)

set_option maxHeartbeats 4000000 in
set_option maxRecDepth 100000 in
theorem c_X4_remove {l : Launch} (hfl : l.flags = flags0) (D : va_G) (g : GT) (z : ZT) (a b d n : Nat) (gr sp mg nm : Int) (f h : Nat → Int) (q : Nat) (hq : q < n) (hn : n ≤ 12) : CV l yX4_remove wsX4_remove 2 43 1 D g z [.ref a, .int (iI (q : Int))] (stC g a b d (n : Int) gr sp mg nm f h) (fun (u9 : Unit) => True) (fun (u9 : Unit) => stC g a b d ((n - 1 : Nat) : Int) gr sp mg nm (rmF f n q) h) 0 0 := by
  refine CV_of hfl (own := RX4) ⟨1, 0, 0, 21⟩ 2 43 1 (by decide +kernel) rfl rfl ⟨by decide, by decide, by decide +kernel⟩ ⟨by decide, by decide⟩ (le_ble rfl) ?_
  intro p e s m below meth c A Q F hin ret
  change J p l e _ s m _ below meth c A D _ Q 0 0 (stC g a b d (n : Int) gr sp mg nm f h) [(0, .ref a), (1, .int (iI (q : Int)))] [] 0
  refine j_aload_n F dX4_remove_0 rfl 0 rfl ?_
  refine j_iload_n F dX4_remove_1 rfl 1 rfl ?_
  refine j_callV_I F (As := [.int (iI (q : Int))]) (wr := []) (st := []) (c_X4_hasHeap hfl D g z a b d n gr sp mg nm f h (q : Int) (by omega) (by unfold rg; omega)) (idx := 41) (C := RX4) gX4_remove_X4_hasHeap rfl rfl [0, 1, 2] [] rfl rfl (by decide) (by decide) (by decide) (ci := 4) (q0 := 0) rfl rfl (by decide) (by decide) (le_ble rfl) ⟨by decide, by decide⟩ dX4_remove_2 ?_
  rintro r9 u9 rfl
  refine J.wsEq (ws2 := stC g a b d (n : Int) gr sp mg nm f h) rfl ?_
  refine j_ifb_ne F (tgt := 9) dX4_remove_5 (by decide)  (fun c5 => ?_) (fun h9 => absurd (by omega) h9)
  refine j_aload_n F dX4_remove_9 rfl 0 rfl ?_
  refine j_dup F dX4_remove_10 rfl ?_
  refine j_getf F (ref := "CairnGame$State") (C := RX4) (T := TX4) (N := 7) (ci := 4) (index := 15) (v := .int (iI (n : Int))) (fun w h => (List.mem_cons_of_mem _ (List.mem_append_right _ h))) 0 rfl rfl 1 (by decide) (List.mem_cons_of_mem _ (List.mem_append_left _ (List.mem_of_getElem? (i := 0) rfl))) rfl rfl dX4_remove_11 ?_
  refine j_iconst F dX4_remove_14 ?_
  refine j_isub F dX4_remove_15 ?_
  refine J.top (congrArg iI (show ((n : Int) - 1) = ((n - 1 : Nat) : Int) from by omega)) ?_
  refine j_putf F (ref := "CairnGame$State") (C := RX4) (T := TX4) (N := 7) (ci := 4) (index := 15) (ty := .int) (ws' := stC g a b d ((n - 1 : Nat) : Int) gr sp mg nm f h) (fun w h => (List.mem_cons_of_mem _ (List.mem_append_right _ h))) tyX4 tyX4_ok nmX4 0 rfl rfl 1 (by decide) (List.mem_cons_of_mem _ (List.mem_append_left _ (List.mem_of_getElem? (i := 0) rfl))) rfl rfl rfl rfl rfl (lt_ble rfl) rfl dX4_remove_16 ?_
  refine j_iload_n F dX4_remove_19 rfl 1 rfl ?_
  refine j_istore_n F (lv' := [(2, .int (iI (q : Int))), (0, .ref a), (1, .int (iI (q : Int)))]) dX4_remove_20 rfl (by decide) rfl ?_
  refine J.loc [0, 1, 2] rfl ?_
  refine J_loop (σ := Nat × (Nat → Int)) (fun x9 : Nat × (Nat → Int) => match x9 with | (i, G) => (q ≤ i ∧ i ≤ n - 1) ∧ G = rmP f q i) (fun x9 : Nat × (Nat → Int) => match x9 with | (i, G) => n - 1 - i) (fun x9 : Nat × (Nat → Int) => match x9 with | (i, G) => stC g a b d ((n - 1 : Nat) : Int) gr sp mg nm G h) (fun x9 : Nat × (Nat → Int) => match x9 with | (i, G) => [(2, .int (iI (i : Int))), (0, .ref a), (1, .int (iI (q : Int)))]) (q, f) (by show (q ≤ q ∧ q ≤ n - 1) ∧ f = rmP f q q; exact ⟨by omega, (rmP_0 f q).symm⟩) ?_
  rintro ⟨i, G⟩ hI ih21
  have hI : (q ≤ i ∧ i ≤ n - 1) ∧ G = rmP f q i := hI
  obtain ⟨⟨h1, h2⟩, h3⟩ := hI
  refine j_iload_n F dX4_remove_21 rfl 0 rfl ?_
  refine j_aload_n F dX4_remove_22 rfl 1 rfl ?_
  refine j_getf F (ref := "CairnGame$State") (C := RX4) (T := TX4) (N := 7) (ci := 4) (index := 15) (v := .int (iI ((n - 1 : Nat) : Int))) (fun w h => (List.mem_cons_of_mem _ (List.mem_append_right _ h))) 0 rfl rfl 1 (by decide) (List.mem_cons_of_mem _ (List.mem_append_left _ (List.mem_of_getElem? (i := 0) rfl))) rfl rfl dX4_remove_23 ?_
  refine j_icmp_ge F (tgt := 49) dX4_remove_26 (by decide) ⟨(by unfold rg; omega), (by unfold rg; omega)⟩ (fun c26 => ?_) (fun c26 => ?_)
  · refine J.wsEq (ws2 := stC g a b d ((n - 1 : Nat) : Int) gr sp mg nm (rmF f n q) h) (by rw [h3, show i = n - 1 by omega]; rfl) ?_
    exact ret () 0 0 _ _ dX4_remove_49 (by decide) (by decide) trivial
  · refine j_aload_n F dX4_remove_29 rfl 1 rfl ?_
    refine j_getf F (ref := "CairnGame$State") (C := RX4) (T := TX4) (N := 7) (ci := 4) (index := 9) (v := .ref b) (fun w h => (List.mem_cons_of_mem _ (List.mem_append_right _ h))) 0 rfl rfl 0 (by decide) (List.mem_cons_of_mem _ (List.mem_append_left _ (List.mem_of_getElem? (i := 1) rfl))) rfl rfl dX4_remove_30 ?_
    refine j_iload_n F dX4_remove_33 rfl 0 rfl ?_
    refine j_aload_n F dX4_remove_34 rfl 1 rfl ?_
    refine j_getf F (ref := "CairnGame$State") (C := RX4) (T := TX4) (N := 7) (ci := 4) (index := 9) (v := .ref b) (fun w h => (List.mem_cons_of_mem _ (List.mem_append_right _ h))) 0 rfl rfl 0 (by decide) (List.mem_cons_of_mem _ (List.mem_append_left _ (List.mem_of_getElem? (i := 1) rfl))) rfl rfl dX4_remove_35 ?_
    refine j_iload_n F dX4_remove_38 rfl 0 rfl ?_
    refine j_iconst F dX4_remove_39 ?_
    refine j_iadd F dX4_remove_40 ?_
    refine j_iald F 1 (n := 12) (f := G) rfl (i + 1) (by omega) (by omega) (by decide) dX4_remove_41 ?_
    refine j_iast F (ws' := stC g a b d ((n - 1 : Nat) : Int) gr sp mg nm (nup G i (G (i + 1))) h) 1 (n := 12) (f := G) rfl i (rfl) (by omega) (by decide) rfl dX4_remove_42 ?_
    refine j_iinc F (lv' := [(2, .int (iI ((i : Int) + 1))), (0, .ref a), (1, .int (iI (q : Int)))]) dX4_remove_43 0 rfl (by decide) rfl ?_
    refine j_goto F (tgt := 21) dX4_remove_46 (by decide) ?_
    refine J.loc [0, 1, 2] rfl ?_
    exact ih21 ((i + 1), nup G i (G (i + 1))) (by show (q ≤ (i + 1) ∧ (i + 1) ≤ n - 1) ∧ (nup G i (G (i + 1))) = rmP f q (i + 1); exact ⟨by omega, by rw [h3]; exact rmP_s f h1⟩) (by show n - 1 - (i + 1) < n - 1 - i; omega)

set_option maxHeartbeats 4000000 in
set_option maxRecDepth 100000 in
theorem c_X4_shrink {l : Launch} (hfl : l.flags = flags0) (D : va_G) (g : GT) (z : ZT) (a b d n : Nat) (gr sp mg nm : Int) (f h : Nat → Int) (q : Nat) (t : Int) (hq : q < n) (hn : n ≤ 12) (hf : 0 ≤ f q ∧ f q ≤ 12) (ht : 0 ≤ t ∧ t ≤ 12) : CV l yX4_shrink wsX4_shrink 3 65 2 D g z [.ref a, .int (iI (q : Int)), .int (iI t)] (stC g a b d (n : Int) gr sp mg nm f h) (fun (u9 : Nat × NF) => u9 = shkF n f q t) (fun (u9 : Nat × NF) => stC g a b d (u9.1 : Int) gr sp mg nm u9.2 h) 0 0 := by
  refine CV_of hfl (own := RX4) ⟨2, 0, 0, 43⟩ 3 65 2 (by decide +kernel) rfl rfl ⟨by decide, by decide, by decide +kernel⟩ ⟨by decide, by decide⟩ (le_ble rfl) ?_
  intro p e s m below meth c A Q F hin ret
  change J p l e _ s m _ below meth c A D _ Q 0 0 (stC g a b d (n : Int) gr sp mg nm f h) [(0, .ref a), (1, .int (iI (q : Int))), (2, .int (iI t))] [] 0
  refine j_aload_n F dX4_shrink_0 rfl 0 rfl ?_
  refine j_getf F (ref := "CairnGame$State") (C := RX4) (T := TX4) (N := 7) (ci := 4) (index := 9) (v := .ref b) (fun w h => (List.mem_cons_of_mem _ (List.mem_append_right _ h))) 0 rfl rfl 0 (by decide) (List.mem_cons_of_mem _ (List.mem_append_left _ (List.mem_of_getElem? (i := 0) rfl))) rfl rfl dX4_shrink_1 ?_
  refine j_iload_n F dX4_shrink_4 rfl 1 rfl ?_
  refine j_dup2 F dX4_shrink_5 rfl rfl ?_
  refine j_iald F 1 (n := 12) (f := f) rfl q (rfl) (by omega) (by decide) dX4_shrink_6 ?_
  refine j_iload_n F dX4_shrink_7 rfl 2 rfl ?_
  refine j_isub F dX4_shrink_8 ?_
  refine j_iast F (ws' := stC g a b d (n : Int) gr sp mg nm (nup f q (f q - t)) h) 1 (n := 12) (f := f) rfl q (rfl) (by omega) (by decide) rfl dX4_shrink_9 ?_
  refine j_aload_n F dX4_shrink_10 rfl 0 rfl ?_
  refine j_getf F (ref := "CairnGame$State") (C := RX4) (T := TX4) (N := 7) (ci := 4) (index := 9) (v := .ref b) (fun w h => (List.mem_cons_of_mem _ (List.mem_append_right _ h))) 0 rfl rfl 0 (by decide) (List.mem_cons_of_mem _ (List.mem_append_left _ (List.mem_of_getElem? (i := 0) rfl))) rfl rfl dX4_shrink_11 ?_
  refine j_iload_n F dX4_shrink_14 rfl 1 rfl ?_
  refine j_iald F 1 (n := 12) (f := (nup f q (f q - t))) rfl q (rfl) (by omega) (by decide) dX4_shrink_15 ?_
  refine j_if_ne F (tgt := 24) dX4_shrink_16 (by decide) (by rw [nup_s]; unfold rg; omega) (fun c16 => ?_) (fun c16 => ?_)
  · refine J.wsEq (ws2 := stC g a b d ((shkF n f q t).1 : Int) gr sp mg nm ((shkF n f q t).2) h) (by unfold shkF; rw [nup_s] at c16; rw [if_neg c16]) ?_
    exact ret (shkF n f q t) 0 0 _ _ dX4_shrink_24 (by decide) (by decide) rfl
  · refine j_aload_n F dX4_shrink_19 rfl 0 rfl ?_
    refine j_iload_n F dX4_shrink_20 rfl 1 rfl ?_
    refine j_callV_V F (As := [.int (iI (q : Int))]) (wr := []) (st := []) (c_X4_remove hfl D g z a b d n gr sp mg nm (nup f q (f q - t)) h q hq hn) (idx := 69) (C := RX4) gX4_shrink_X4_remove rfl rfl [0, 1, 2] [] rfl rfl (by decide) (by decide) (by decide) (ci := 4) (q0 := 0) rfl rfl (by decide) (by decide) (le_ble rfl) ⟨by decide, by decide⟩ dX4_shrink_21 ?_
    rintro u9 h9
    refine J.wsEq (ws2 := stC g a b d ((n - 1 : Nat) : Int) gr sp mg nm (rmF (nup f q (f q - t)) n q) h) rfl ?_
    refine J.wsEq (ws2 := stC g a b d ((shkF n f q t).1 : Int) gr sp mg nm ((shkF n f q t).2) h) (by unfold shkF; rw [nup_s] at c16; rw [if_pos c16]) ?_
    exact ret (shkF n f q t) 0 0 _ _ dX4_shrink_24 (by decide) (by decide) rfl

set_option maxHeartbeats 4000000 in
set_option maxRecDepth 100000 in
theorem c_X4_carryOut {l : Launch} (hfl : l.flags = flags0) (D : va_G) (g : GT) (z : ZT) (a b d n : Nat) (gr sp mg nm : Int) (f h : Nat → Int) (k q : Nat) (t : Int) (hk : k < 3) (hq : q < n) (hn : n ≤ 12) (hf : ∀ i, i < n → 0 ≤ f i ∧ f i ≤ 12) (ht : if k = 0 then 0 ≤ t ∧ t ≤ 12 else if k = 1 then 1 ≤ t ∧ t ≤ 12 ∧ n < 12 else 0 ≤ t ∧ t < (n : Int) ∧ ¬ t = (q : Int)) : CV l yX4_carryOut wsX4_carryOut 4 88 3 D g z [.ref a, .int (iI (k : Int)), .int (iI (q : Int)), .int (iI t)] (stC g a b d (n : Int) gr sp mg nm f h) (fun (u9 : Nat × NF) => u9 = coF n f k q t) (fun (u9 : Nat × NF) => stC g a b d (u9.1 : Int) gr sp mg nm u9.2 (nup h k (h k + 1))) 0 0 := by
  refine CV_of hfl (own := RX4) ⟨3, 0, 0, 65⟩ 4 88 3 (by decide +kernel) rfl rfl ⟨by decide, by decide, by decide +kernel⟩ ⟨by decide, by decide⟩ (le_ble rfl) ?_
  intro p e s m below meth c A Q F hin ret
  change J p l e _ s m _ below meth c A D _ Q 0 0 (stC g a b d (n : Int) gr sp mg nm f h) [(0, .ref a), (1, .int (iI (k : Int))), (2, .int (iI (q : Int))), (3, .int (iI t))] [] 0
  have hfq := hf q hq
  refine j_iload_n F dX4_carryOut_0 rfl 1 rfl ?_
  refine j_if_ne F (tgt := 13) dX4_carryOut_1 (by decide) (by unfold rg; omega) (fun c1 => ?_) (fun c1 => ?_)
  · rw [if_neg (show ¬ k = 0 by omega)] at ht
    refine j_iload_n F dX4_carryOut_13 rfl 1 rfl ?_
    refine j_iconst F dX4_carryOut_14 ?_
    refine j_icmp_ne F (tgt := 43) dX4_carryOut_15 (by decide) ⟨(by unfold rg; omega), (by unfold rg; omega)⟩ (fun c15 => ?_) (fun c15 => ?_)
    · rw [if_neg (show ¬ k = 1 by omega)] at ht
      have hfw := hf t.toNat (by omega)
      refine j_aload_n F dX4_carryOut_43 rfl 0 rfl ?_
      refine j_getf F (ref := "CairnGame$State") (C := RX4) (T := TX4) (N := 7) (ci := 4) (index := 9) (v := .ref b) (fun w h => (List.mem_cons_of_mem _ (List.mem_append_right _ h))) 0 rfl rfl 0 (by decide) (List.mem_cons_of_mem _ (List.mem_append_left _ (List.mem_append_left _ (List.mem_of_getElem? (l := wsX4_carryOut_r1) (i := 0) rfl)))) rfl rfl dX4_carryOut_44 ?_
      refine j_iload_n F dX4_carryOut_47 rfl 2 rfl ?_
      refine j_iload_n F dX4_carryOut_48 rfl 3 rfl ?_
      refine j_mmin F (List.mem_cons_of_mem _ (List.mem_append_left _ (List.mem_append_left _ (List.mem_of_getElem? (l := wsX4_carryOut_r1) (i := 1) rfl)))) (List.mem_cons_of_mem _ (List.mem_append_left _ (List.mem_append_left _ (List.mem_of_getElem? (l := wsX4_carryOut_r1) (i := 2) rfl)))) (List.mem_cons_of_mem _ (List.mem_append_left _ (List.mem_append_left _ (List.mem_of_getElem? (l := wsX4_carryOut_r1) (i := 3) rfl)))) (List.mem_cons_of_mem _ (List.mem_append_left _ (List.mem_append_left _ (List.mem_of_getElem? (l := wsX4_carryOut_r1) (i := 4) rfl)))) ⟨(by unfold rg; omega), (by unfold rg; omega)⟩ (le_ble rfl) (by decide) (by decide) (by decide) (by decide) dX4_carryOut_49 ?_
      refine J.top (congrArg iI (show (min (q : Int) t) = (((min q t.toNat) : Nat) : Int) from by omega)) ?_
      refine j_aload_n F dX4_carryOut_52 rfl 0 rfl ?_
      refine j_getf F (ref := "CairnGame$State") (C := RX4) (T := TX4) (N := 7) (ci := 4) (index := 9) (v := .ref b) (fun w h => (List.mem_cons_of_mem _ (List.mem_append_right _ h))) 0 rfl rfl 0 (by decide) (List.mem_cons_of_mem _ (List.mem_append_left _ (List.mem_append_left _ (List.mem_of_getElem? (l := wsX4_carryOut_r1) (i := 0) rfl)))) rfl rfl dX4_carryOut_53 ?_
      refine j_iload_n F dX4_carryOut_56 rfl 2 rfl ?_
      refine j_iald F 1 (n := 12) (f := f) rfl q (rfl) (by omega) (by decide) dX4_carryOut_57 ?_
      refine j_aload_n F dX4_carryOut_58 rfl 0 rfl ?_
      refine j_getf F (ref := "CairnGame$State") (C := RX4) (T := TX4) (N := 7) (ci := 4) (index := 9) (v := .ref b) (fun w h => (List.mem_cons_of_mem _ (List.mem_append_right _ h))) 0 rfl rfl 0 (by decide) (List.mem_cons_of_mem _ (List.mem_append_left _ (List.mem_append_left _ (List.mem_of_getElem? (l := wsX4_carryOut_r1) (i := 0) rfl)))) rfl rfl dX4_carryOut_59 ?_
      refine j_iload_n F dX4_carryOut_62 rfl 3 rfl ?_
      refine j_iald F 1 (n := 12) (f := f) rfl ((t).toNat) (by omega) (by omega) (by decide) dX4_carryOut_63 ?_
      refine j_iadd F dX4_carryOut_64 ?_
      refine j_iconst F dX4_carryOut_65 ?_
      refine j_isub F dX4_carryOut_66 ?_
      refine j_iast F (ws' := stC g a b d (n : Int) gr sp mg nm (nup f (min q t.toNat) ((f q + f ((t).toNat)) - 1)) h) 1 (n := 12) (f := f) rfl (min q t.toNat) (by omega) (by omega) (by decide) rfl dX4_carryOut_67 ?_
      refine j_aload_n F dX4_carryOut_68 rfl 0 rfl ?_
      refine j_iload_n F dX4_carryOut_69 rfl 2 rfl ?_
      refine j_iload_n F dX4_carryOut_70 rfl 3 rfl ?_
      refine j_mmax F (List.mem_cons_of_mem _ (List.mem_append_left _ (List.mem_append_left _ (List.mem_of_getElem? (l := wsX4_carryOut_r1) (i := 5) rfl)))) (List.mem_cons_of_mem _ (List.mem_append_left _ (List.mem_append_left _ (List.mem_of_getElem? (l := wsX4_carryOut_r1) (i := 6) rfl)))) (List.mem_cons_of_mem _ (List.mem_append_left _ (List.mem_append_left _ (List.mem_of_getElem? (l := wsX4_carryOut_r1) (i := 3) rfl)))) (List.mem_cons_of_mem _ (List.mem_append_left _ (List.mem_append_left _ (List.mem_of_getElem? (l := wsX4_carryOut_r1) (i := 7) rfl)))) ⟨(by unfold rg; omega), (by unfold rg; omega)⟩ (le_ble rfl) (by decide) (by decide) (by decide) (by decide) dX4_carryOut_71 ?_
      refine J.top (congrArg iI (show (max (q : Int) t) = (((max q t.toNat) : Nat) : Int) from by omega)) ?_
      refine j_callV_V F (As := [.int (iI (((max q t.toNat) : Nat) : Int))]) (wr := []) (st := []) (c_X4_remove hfl D g z a b d n gr sp mg nm (nup f (min q t.toNat) (f q + f t.toNat - 1)) h (max q t.toNat) (by omega) hn) (idx := 69) (C := RX4) gX4_carryOut_X4_remove rfl rfl [0, 1, 2] [] rfl rfl (by decide) (by decide) (by decide) (ci := 4) (q0 := 0) rfl rfl (by decide) (by decide) (le_ble rfl) ⟨by decide, by decide⟩ dX4_carryOut_74 ?_
      rintro u9 h9
      refine J.wsEq (ws2 := stC g a b d ((n - 1 : Nat) : Int) gr sp mg nm (rmF (nup f (min q t.toNat) (f q + f t.toNat - 1)) n (max q t.toNat)) h) rfl ?_
      refine j_aload_n F dX4_carryOut_77 rfl 0 rfl ?_
      refine j_getf F (ref := "CairnGame$State") (C := RX4) (T := TX4) (N := 7) (ci := 4) (index := 32) (v := .ref d) (fun w h => (List.mem_cons_of_mem _ (List.mem_append_right _ h))) 0 rfl rfl 6 (by decide) (List.mem_cons_of_mem _ (List.mem_append_left _ (List.mem_append_left _ (List.mem_of_getElem? (l := wsX4_carryOut_r1) (i := 8) rfl)))) rfl rfl dX4_carryOut_78 ?_
      refine j_iload_n F dX4_carryOut_81 rfl 1 rfl ?_
      refine j_dup2 F dX4_carryOut_82 rfl rfl ?_
      refine j_iald F 2 (n := 3) (f := h) rfl k (rfl) (by omega) (by decide) dX4_carryOut_83 ?_
      refine j_iconst F dX4_carryOut_84 ?_
      refine j_iadd F dX4_carryOut_85 ?_
      refine j_iast F (ws' := stC g a b d ((n - 1 : Nat) : Int) gr sp mg nm (rmF (nup f (min q t.toNat) (f q + f t.toNat - 1)) n (max q t.toNat)) (nup h k (h k + 1))) 2 (n := 3) (f := h) rfl k (rfl) (by omega) (by decide) rfl dX4_carryOut_86 ?_
      refine J.wsEq (ws2 := stC g a b d ((coF n f k q t).1 : Int) gr sp mg nm ((coF n f k q t).2) (nup h k (h k + 1))) (by unfold coF; rw [if_neg (by omega), if_neg (by omega)]; rfl) ?_
      exact ret (coF n f k q t) 0 0 _ _ dX4_carryOut_87 (by decide) (by decide) rfl
    · rw [if_pos (show k = 1 by omega)] at ht
      refine j_aload_n F dX4_carryOut_18 rfl 0 rfl ?_
      refine j_iload_n F dX4_carryOut_19 rfl 2 rfl ?_
      refine j_iconst F dX4_carryOut_20 ?_
      refine j_iadd F dX4_carryOut_21 ?_
      refine j_aload_n F dX4_carryOut_22 rfl 0 rfl ?_
      refine j_getf F (ref := "CairnGame$State") (C := RX4) (T := TX4) (N := 7) (ci := 4) (index := 9) (v := .ref b) (fun w h => (List.mem_cons_of_mem _ (List.mem_append_right _ h))) 0 rfl rfl 0 (by decide) (List.mem_cons_of_mem _ (List.mem_append_left _ (List.mem_append_left _ (List.mem_of_getElem? (l := wsX4_carryOut_r1) (i := 0) rfl)))) rfl rfl dX4_carryOut_23 ?_
      refine j_iload_n F dX4_carryOut_26 rfl 2 rfl ?_
      refine j_iald F 1 (n := 12) (f := f) rfl q (rfl) (by omega) (by decide) dX4_carryOut_27 ?_
      refine j_iload_n F dX4_carryOut_28 rfl 3 rfl ?_
      refine j_isub F dX4_carryOut_29 ?_
      refine j_callV_V F (As := [.int (iI ((q : Int) + 1)), .int (iI (f q - t))]) (wr := []) (st := []) (c_X4_insert hfl D g z a b d n gr sp mg nm f h (q + 1) (f q - t) (by omega) (by omega)) (idx := 57) (C := RX4) gX4_carryOut_X4_insert rfl rfl [0, 1, 2] [] rfl rfl (by decide) (by decide) (by decide) (ci := 4) (q0 := 0) rfl rfl (by decide) (by decide) (le_ble rfl) ⟨by decide, by decide⟩ dX4_carryOut_30 ?_
      rintro u9 h9
      refine J.wsEq (ws2 := stC g a b d ((n : Int) + 1) gr sp mg nm (insF f n (q + 1) (f q - t)) h) rfl ?_
      refine j_aload_n F dX4_carryOut_33 rfl 0 rfl ?_
      refine j_getf F (ref := "CairnGame$State") (C := RX4) (T := TX4) (N := 7) (ci := 4) (index := 9) (v := .ref b) (fun w h => (List.mem_cons_of_mem _ (List.mem_append_right _ h))) 0 rfl rfl 0 (by decide) (List.mem_cons_of_mem _ (List.mem_append_left _ (List.mem_append_left _ (List.mem_of_getElem? (l := wsX4_carryOut_r1) (i := 0) rfl)))) rfl rfl dX4_carryOut_34 ?_
      refine j_iload_n F dX4_carryOut_37 rfl 2 rfl ?_
      refine j_iload_n F dX4_carryOut_38 rfl 3 rfl ?_
      refine j_iast F (ws' := stC g a b d ((n : Int) + 1) gr sp mg nm (nup (insF f n (q + 1) (f q - t)) q t) h) 1 (n := 12) (f := (insF f n (q + 1) (f q - t))) rfl q (rfl) (by omega) (by decide) rfl dX4_carryOut_39 ?_
      refine j_goto F (tgt := 77) dX4_carryOut_40 (by decide) ?_
      refine j_aload_n F dX4_carryOut_77 rfl 0 rfl ?_
      refine j_getf F (ref := "CairnGame$State") (C := RX4) (T := TX4) (N := 7) (ci := 4) (index := 32) (v := .ref d) (fun w h => (List.mem_cons_of_mem _ (List.mem_append_right _ h))) 0 rfl rfl 6 (by decide) (List.mem_cons_of_mem _ (List.mem_append_left _ (List.mem_append_left _ (List.mem_of_getElem? (l := wsX4_carryOut_r1) (i := 8) rfl)))) rfl rfl dX4_carryOut_78 ?_
      refine j_iload_n F dX4_carryOut_81 rfl 1 rfl ?_
      refine j_dup2 F dX4_carryOut_82 rfl rfl ?_
      refine j_iald F 2 (n := 3) (f := h) rfl k (rfl) (by omega) (by decide) dX4_carryOut_83 ?_
      refine j_iconst F dX4_carryOut_84 ?_
      refine j_iadd F dX4_carryOut_85 ?_
      refine j_iast F (ws' := stC g a b d ((n : Int) + 1) gr sp mg nm (nup (insF f n (q + 1) (f q - t)) q t) (nup h k (h k + 1))) 2 (n := 3) (f := h) rfl k (rfl) (by omega) (by decide) rfl dX4_carryOut_86 ?_
      refine J.wsEq (ws2 := stC g a b d ((coF n f k q t).1 : Int) gr sp mg nm ((coF n f k q t).2) (nup h k (h k + 1))) (by unfold coF; rw [if_neg (by omega), if_pos (by omega)]; rfl) ?_
      exact ret (coF n f k q t) 0 0 _ _ dX4_carryOut_87 (by decide) (by decide) rfl
  · rw [if_pos (show k = 0 by omega)] at ht
    refine j_aload_n F dX4_carryOut_4 rfl 0 rfl ?_
    refine j_iload_n F dX4_carryOut_5 rfl 2 rfl ?_
    refine j_iload_n F dX4_carryOut_6 rfl 3 rfl ?_
    refine j_callV_V F (As := [.int (iI (q : Int)), .int (iI t)]) (wr := []) (st := []) (c_X4_shrink hfl D g z a b d n gr sp mg nm f h q t hq hn hfq (by omega)) (idx := 53) (C := RX4) gX4_carryOut_X4_shrink rfl rfl [0, 1, 2] [] rfl rfl (by decide) (by decide) (by decide) (ci := 4) (q0 := 0) rfl rfl (by decide) (by decide) (le_ble rfl) ⟨by decide, by decide⟩ dX4_carryOut_7 ?_
    rintro u9 rfl
    refine J.wsEq (ws2 := stC g a b d ((shkF n f q t).1 : Int) gr sp mg nm ((shkF n f q t).2) h) rfl ?_
    refine j_goto F (tgt := 77) dX4_carryOut_10 (by decide) ?_
    refine j_aload_n F dX4_carryOut_77 rfl 0 rfl ?_
    refine j_getf F (ref := "CairnGame$State") (C := RX4) (T := TX4) (N := 7) (ci := 4) (index := 32) (v := .ref d) (fun w h => (List.mem_cons_of_mem _ (List.mem_append_right _ h))) 0 rfl rfl 6 (by decide) (List.mem_cons_of_mem _ (List.mem_append_left _ (List.mem_append_left _ (List.mem_of_getElem? (l := wsX4_carryOut_r1) (i := 8) rfl)))) rfl rfl dX4_carryOut_78 ?_
    refine j_iload_n F dX4_carryOut_81 rfl 1 rfl ?_
    refine j_dup2 F dX4_carryOut_82 rfl rfl ?_
    refine j_iald F 2 (n := 3) (f := h) rfl k (rfl) (by omega) (by decide) dX4_carryOut_83 ?_
    refine j_iconst F dX4_carryOut_84 ?_
    refine j_iadd F dX4_carryOut_85 ?_
    refine j_iast F (ws' := stC g a b d ((shkF n f q t).1 : Int) gr sp mg nm ((shkF n f q t).2) (nup h k (h k + 1))) 2 (n := 3) (f := h) rfl k (rfl) (by omega) (by decide) rfl dX4_carryOut_86 ?_
    refine J.wsEq (ws2 := stC g a b d ((coF n f k q t).1 : Int) gr sp mg nm ((coF n f k q t).2) (nup h k (h k + 1))) (by unfold coF; rw [if_pos (by omega)]) ?_
    exact ret (coF n f k q t) 0 0 _ _ dX4_carryOut_87 (by decide) (by decide) rfl

set_option maxHeartbeats 4000000 in
set_option maxRecDepth 100000 in
theorem c_X4_startAnew {l : Launch} (hfl : l.flags = flags0) (D : va_G) (g : GT) (z : ZT) (a b d n : Nat) (gr sp mg nm : Int) (f h : Nat → Int) : CV l yX4_startAnew wsX4_startAnew 1 21 0 D g z [.ref a] (stC g a b d (n : Int) gr sp mg nm f h) (fun (u9 : Unit) => True) (fun (u9 : Unit) => stC g a b d 0 gr sp mg nm f (zrF h 3)) 0 0 := by
  refine CV_of hfl (own := RX4) ⟨0, 0, 0, 0⟩ 1 21 0 (by decide +kernel) rfl rfl ⟨by decide, by decide, by decide +kernel⟩ ⟨by decide, by decide⟩ (le_ble rfl) ?_
  intro p e s m below meth c A Q F hin ret
  change J p l e _ s m _ below meth c A D _ Q 0 0 (stC g a b d (n : Int) gr sp mg nm f h) [(0, .ref a)] [] 0
  refine j_aload_n F dX4_startAnew_0 rfl 0 rfl ?_
  refine j_iconst F dX4_startAnew_1 ?_
  refine j_putf F (ref := "CairnGame$State") (C := RX4) (T := TX4) (N := 7) (ci := 4) (index := 15) (ty := .int) (ws' := stC g a b d 0 gr sp mg nm f h) (fun w h => (List.mem_cons_of_mem _ (List.mem_append_right _ h))) tyX4 tyX4_ok nmX4 0 rfl rfl 1 (by decide) (List.mem_cons_of_mem _ (List.mem_append_left _ (List.mem_of_getElem? (i := 0) rfl))) rfl rfl rfl rfl rfl (lt_ble rfl) rfl dX4_startAnew_2 ?_
  refine j_iconst F dX4_startAnew_5 ?_
  refine j_istore_n F (lv' := [(1, .int (iI 0)), (0, .ref a)]) dX4_startAnew_6 rfl (by decide) rfl ?_
  refine J.loc [0, 1] rfl ?_
  refine J_loop (σ := Nat × (Nat → Int)) (fun x9 : Nat × (Nat → Int) => match x9 with | (i, G) => i ≤ 3 ∧ G = zrF h i) (fun x9 : Nat × (Nat → Int) => match x9 with | (i, G) => 3 - i) (fun x9 : Nat × (Nat → Int) => match x9 with | (i, G) => stC g a b d 0 gr sp mg nm f G) (fun x9 : Nat × (Nat → Int) => match x9 with | (i, G) => [(1, .int (iI (i : Int))), (0, .ref a)]) (0, h) (by show 0 ≤ 3 ∧ h = zrF h 0; exact ⟨by omega, (zrF_0 h).symm⟩) ?_
  rintro ⟨i, G⟩ hI ih7
  have hI : i ≤ 3 ∧ G = zrF h i := hI
  obtain ⟨h1, h2⟩ := hI
  refine j_iload_n F dX4_startAnew_7 rfl 0 rfl ?_
  refine j_iconst F dX4_startAnew_8 ?_
  refine j_icmp_ge F (tgt := 25) dX4_startAnew_9 (by decide) ⟨(by unfold rg; omega), (by unfold rg; omega)⟩ (fun c9 => ?_) (fun c9 => ?_)
  · refine J.wsEq (ws2 := stC g a b d 0 gr sp mg nm f (zrF h 3)) (by rw [h2, show i = 3 by omega]) ?_
    exact ret () 0 0 _ _ dX4_startAnew_25 (by decide) (by decide) trivial
  · refine j_aload_n F dX4_startAnew_12 rfl 1 rfl ?_
    refine j_getf F (ref := "CairnGame$State") (C := RX4) (T := TX4) (N := 7) (ci := 4) (index := 32) (v := .ref d) (fun w h => (List.mem_cons_of_mem _ (List.mem_append_right _ h))) 0 rfl rfl 6 (by decide) (List.mem_cons_of_mem _ (List.mem_append_left _ (List.mem_of_getElem? (i := 1) rfl))) rfl rfl dX4_startAnew_13 ?_
    refine j_iload_n F dX4_startAnew_16 rfl 0 rfl ?_
    refine j_iconst F dX4_startAnew_17 ?_
    refine j_iast F (ws' := stC g a b d 0 gr sp mg nm f (nup G i 0)) 2 (n := 3) (f := G) rfl i (rfl) (by omega) (by decide) rfl dX4_startAnew_18 ?_
    refine j_iinc F (lv' := [(1, .int (iI ((i : Int) + 1))), (0, .ref a)]) dX4_startAnew_19 0 rfl (by decide) rfl ?_
    refine j_goto F (tgt := 7) dX4_startAnew_22 (by decide) ?_
    refine J.loc [0, 1] rfl ?_
    exact ih7 ((i + 1), nup G i 0) (by show (i + 1) ≤ 3 ∧ (nup G i 0) = zrF h (i + 1); exact ⟨by omega, by rw [h2]; exact zrF_s h i⟩) (by show 3 - (i + 1) < 3 - i; omega)

set_option maxHeartbeats 4000000 in
set_option maxRecDepth 100000 in
theorem c_X4_copyFrom {l : Launch} (hfl : l.flags = flags0) (D : va_G) (g : GT) (z : ZT) (a b d a2 b2 d2 : Nat) (cn gr sp mg nm cn2 gr2 sp2 mg2 nm2 : Int) (f h f2 h2 : Nat → Int) (hs : sp2 = 0 ∨ sp2 = 1) (hm : mg2 = 0 ∨ mg2 = 1) (hn9 : nm2 = 0 ∨ nm2 = 1) : CV l yX4_copyFrom wsX4_copyFrom 2 81 1 D g z [.ref a, .ref a2] (stC g a b d cn gr sp mg nm f h ++ (stC g a2 b2 d2 cn2 gr2 sp2 mg2 nm2 f2 h2)) (fun (u9 : Unit) => True) (fun (u9 : Unit) => stC g a b d cn2 gr2 sp2 mg2 nm2 (ncpy f2 f 12) (ncpy h2 h 3) ++ (stC g a2 b2 d2 cn2 gr2 sp2 mg2 nm2 f2 h2)) 0 0 := by
  refine CV_of hfl (own := RX4) ⟨1, 0, 0, 60⟩ 2 81 1 (by decide +kernel) rfl rfl ⟨by decide, by decide, by decide +kernel⟩ ⟨by decide, by decide⟩ (le_ble rfl) ?_
  intro p e s m below meth c A Q F hin ret
  change J p l e _ s m _ below meth c A D _ Q 0 0 (stC g a b d cn gr sp mg nm f h ++ (stC g a2 b2 d2 cn2 gr2 sp2 mg2 nm2 f2 h2)) [(0, .ref a), (1, .ref a2)] [] 0
  refine j_aload_n F dX4_copyFrom_0 rfl 1 rfl ?_
  refine j_getf F (ref := "CairnGame$State") (C := RX4) (T := TX4) (N := 7) (ci := 4) (index := 9) (v := .ref b2) (fun w h => (List.mem_cons_of_mem _ (List.mem_append_right _ h))) 3 rfl rfl 0 (by decide) (List.mem_cons_of_mem _ (List.mem_append_left _ (List.mem_of_getElem? (i := 0) rfl))) rfl rfl dX4_copyFrom_1 ?_
  refine j_iconst F dX4_copyFrom_4 ?_
  refine j_aload_n F dX4_copyFrom_5 rfl 0 rfl ?_
  refine j_getf F (ref := "CairnGame$State") (C := RX4) (T := TX4) (N := 7) (ci := 4) (index := 9) (v := .ref b) (fun w h => (List.mem_cons_of_mem _ (List.mem_append_right _ h))) 0 rfl rfl 0 (by decide) (List.mem_cons_of_mem _ (List.mem_append_left _ (List.mem_of_getElem? (i := 0) rfl))) rfl rfl dX4_copyFrom_6 ?_
  refine j_iconst F dX4_copyFrom_9 ?_
  refine j_bipush F dX4_copyFrom_10 (by decide) ?_
  refine j_copy F (ws' := stC g a b d cn gr sp mg nm (ncpy f2 f 12) h ++ (stC g a2 b2 d2 cn2 gr2 sp2 mg2 nm2 f2 h2)) (List.mem_cons_of_mem _ (List.mem_append_left _ (List.mem_of_getElem? (i := 1) rfl))) (List.mem_cons_of_mem _ (List.mem_append_left _ (List.mem_of_getElem? (i := 2) rfl))) (List.mem_cons_of_mem _ (List.mem_append_left _ (List.mem_of_getElem? (i := 3) rfl))) (List.mem_cons_of_mem _ (List.mem_append_left _ (List.mem_of_getElem? (i := 4) rfl))) 4 1 rfl rfl 12 rfl (by decide) (by decide) (by decide) (le_ble rfl) (by decide) (by decide) rfl dX4_copyFrom_12 ?_
  refine j_aload_n F dX4_copyFrom_15 rfl 0 rfl ?_
  refine j_aload_n F dX4_copyFrom_16 rfl 1 rfl ?_
  refine j_getf F (ref := "CairnGame$State") (C := RX4) (T := TX4) (N := 7) (ci := 4) (index := 15) (v := .int (iI cn2)) (fun w h => (List.mem_cons_of_mem _ (List.mem_append_right _ h))) 3 rfl rfl 1 (by decide) (List.mem_cons_of_mem _ (List.mem_append_left _ (List.mem_of_getElem? (i := 5) rfl))) rfl rfl dX4_copyFrom_17 ?_
  refine j_putf F (ref := "CairnGame$State") (C := RX4) (T := TX4) (N := 7) (ci := 4) (index := 15) (ty := .int) (ws' := stC g a b d cn2 gr sp mg nm (ncpy f2 f 12) h ++ (stC g a2 b2 d2 cn2 gr2 sp2 mg2 nm2 f2 h2)) (fun w h => (List.mem_cons_of_mem _ (List.mem_append_right _ h))) tyX4 tyX4_ok nmX4 0 rfl rfl 1 (by decide) (List.mem_cons_of_mem _ (List.mem_append_left _ (List.mem_of_getElem? (i := 5) rfl))) rfl rfl rfl rfl rfl (lt_ble rfl) rfl dX4_copyFrom_20 ?_
  refine j_aload_n F dX4_copyFrom_23 rfl 0 rfl ?_
  refine j_aload_n F dX4_copyFrom_24 rfl 1 rfl ?_
  refine j_getf F (ref := "CairnGame$State") (C := RX4) (T := TX4) (N := 7) (ci := 4) (index := 19) (v := .int (iI gr2)) (fun w h => (List.mem_cons_of_mem _ (List.mem_append_right _ h))) 3 rfl rfl 2 (by decide) (List.mem_cons_of_mem _ (List.mem_append_left _ (List.mem_of_getElem? (i := 6) rfl))) rfl rfl dX4_copyFrom_25 ?_
  refine j_putf F (ref := "CairnGame$State") (C := RX4) (T := TX4) (N := 7) (ci := 4) (index := 19) (ty := .int) (ws' := stC g a b d cn2 gr2 sp mg nm (ncpy f2 f 12) h ++ (stC g a2 b2 d2 cn2 gr2 sp2 mg2 nm2 f2 h2)) (fun w h => (List.mem_cons_of_mem _ (List.mem_append_right _ h))) tyX4 tyX4_ok nmX4 0 rfl rfl 2 (by decide) (List.mem_cons_of_mem _ (List.mem_append_left _ (List.mem_of_getElem? (i := 6) rfl))) rfl rfl rfl rfl rfl (lt_ble rfl) rfl dX4_copyFrom_28 ?_
  refine j_aload_n F dX4_copyFrom_31 rfl 0 rfl ?_
  refine j_aload_n F dX4_copyFrom_32 rfl 1 rfl ?_
  refine j_getf F (ref := "CairnGame$State") (C := RX4) (T := TX4) (N := 7) (ci := 4) (index := 22) (v := .int (iI sp2)) (fun w h => (List.mem_cons_of_mem _ (List.mem_append_right _ h))) 3 rfl rfl 3 (by decide) (List.mem_cons_of_mem _ (List.mem_append_left _ (List.mem_of_getElem? (i := 7) rfl))) rfl rfl dX4_copyFrom_33 ?_
  refine j_putf F (ref := "CairnGame$State") (C := RX4) (T := TX4) (N := 7) (ci := 4) (index := 22) (ty := .boolean) (ws' := stC g a b d cn2 gr2 sp2 mg nm (ncpy f2 f 12) h ++ (stC g a2 b2 d2 cn2 gr2 sp2 mg2 nm2 f2 h2)) (fun w h => (List.mem_cons_of_mem _ (List.mem_append_right _ h))) tyX4 tyX4_ok nmX4 0 rfl rfl 3 (by decide) (List.mem_cons_of_mem _ (List.mem_append_left _ (List.mem_of_getElem? (i := 7) rfl))) rfl rfl rfl (nar_zb (hs)) (fit_zb (hs)) (lt_ble rfl) rfl dX4_copyFrom_36 ?_
  refine j_aload_n F dX4_copyFrom_39 rfl 0 rfl ?_
  refine j_aload_n F dX4_copyFrom_40 rfl 1 rfl ?_
  refine j_getf F (ref := "CairnGame$State") (C := RX4) (T := TX4) (N := 7) (ci := 4) (index := 26) (v := .int (iI mg2)) (fun w h => (List.mem_cons_of_mem _ (List.mem_append_right _ h))) 3 rfl rfl 4 (by decide) (List.mem_cons_of_mem _ (List.mem_append_left _ (List.mem_of_getElem? (i := 8) rfl))) rfl rfl dX4_copyFrom_41 ?_
  refine j_putf F (ref := "CairnGame$State") (C := RX4) (T := TX4) (N := 7) (ci := 4) (index := 26) (ty := .boolean) (ws' := stC g a b d cn2 gr2 sp2 mg2 nm (ncpy f2 f 12) h ++ (stC g a2 b2 d2 cn2 gr2 sp2 mg2 nm2 f2 h2)) (fun w h => (List.mem_cons_of_mem _ (List.mem_append_right _ h))) tyX4 tyX4_ok nmX4 0 rfl rfl 4 (by decide) (List.mem_cons_of_mem _ (List.mem_append_left _ (List.mem_of_getElem? (i := 8) rfl))) rfl rfl rfl (nar_zb (hm)) (fit_zb (hm)) (lt_ble rfl) rfl dX4_copyFrom_44 ?_
  refine j_aload_n F dX4_copyFrom_47 rfl 0 rfl ?_
  refine j_aload_n F dX4_copyFrom_48 rfl 1 rfl ?_
  refine j_getf F (ref := "CairnGame$State") (C := RX4) (T := TX4) (N := 7) (ci := 4) (index := 29) (v := .int (iI nm2)) (fun w h => (List.mem_cons_of_mem _ (List.mem_append_right _ h))) 3 rfl rfl 5 (by decide) (List.mem_cons_of_mem _ (List.mem_append_left _ (List.mem_of_getElem? (i := 9) rfl))) rfl rfl dX4_copyFrom_49 ?_
  refine j_putf F (ref := "CairnGame$State") (C := RX4) (T := TX4) (N := 7) (ci := 4) (index := 29) (ty := .boolean) (ws' := stC g a b d cn2 gr2 sp2 mg2 nm2 (ncpy f2 f 12) h ++ (stC g a2 b2 d2 cn2 gr2 sp2 mg2 nm2 f2 h2)) (fun w h => (List.mem_cons_of_mem _ (List.mem_append_right _ h))) tyX4 tyX4_ok nmX4 0 rfl rfl 5 (by decide) (List.mem_cons_of_mem _ (List.mem_append_left _ (List.mem_of_getElem? (i := 9) rfl))) rfl rfl rfl (nar_zb (hn9)) (fit_zb (hn9)) (lt_ble rfl) rfl dX4_copyFrom_52 ?_
  refine j_aload_n F dX4_copyFrom_55 rfl 1 rfl ?_
  refine j_getf F (ref := "CairnGame$State") (C := RX4) (T := TX4) (N := 7) (ci := 4) (index := 32) (v := .ref d2) (fun w h => (List.mem_cons_of_mem _ (List.mem_append_right _ h))) 3 rfl rfl 6 (by decide) (List.mem_cons_of_mem _ (List.mem_append_left _ (List.mem_of_getElem? (i := 10) rfl))) rfl rfl dX4_copyFrom_56 ?_
  refine j_iconst F dX4_copyFrom_59 ?_
  refine j_aload_n F dX4_copyFrom_60 rfl 0 rfl ?_
  refine j_getf F (ref := "CairnGame$State") (C := RX4) (T := TX4) (N := 7) (ci := 4) (index := 32) (v := .ref d) (fun w h => (List.mem_cons_of_mem _ (List.mem_append_right _ h))) 0 rfl rfl 6 (by decide) (List.mem_cons_of_mem _ (List.mem_append_left _ (List.mem_of_getElem? (i := 10) rfl))) rfl rfl dX4_copyFrom_61 ?_
  refine j_iconst F dX4_copyFrom_64 ?_
  refine j_iconst F dX4_copyFrom_65 ?_
  refine j_copy F (ws' := stC g a b d cn2 gr2 sp2 mg2 nm2 (ncpy f2 f 12) (ncpy h2 h 3) ++ (stC g a2 b2 d2 cn2 gr2 sp2 mg2 nm2 f2 h2)) (List.mem_cons_of_mem _ (List.mem_append_left _ (List.mem_of_getElem? (i := 1) rfl))) (List.mem_cons_of_mem _ (List.mem_append_left _ (List.mem_of_getElem? (i := 2) rfl))) (List.mem_cons_of_mem _ (List.mem_append_left _ (List.mem_of_getElem? (i := 3) rfl))) (List.mem_cons_of_mem _ (List.mem_append_left _ (List.mem_of_getElem? (i := 4) rfl))) 5 2 rfl rfl 3 rfl (by decide) (by decide) (by decide) (le_ble rfl) (by decide) (by decide) rfl dX4_copyFrom_66 ?_
  exact ret () 0 0 _ _ dX4_copyFrom_69 (by decide) (by decide) trivial

set_option maxHeartbeats 4000000 in
set_option maxRecDepth 100000 in
theorem c_X4_init {l : Launch} (hfl : l.flags = flags0) (D : va_G) (g : GT) (z : ZT) (a : Nat) : CV l yX4_init wsX4_init 2 40 0 D g z [.ref a] ([(a, .inr (4, [.null, .int (iI 0), .int (iI 0), .int (iI 0), .int (iI 0), .int (iI 0), .null]))]) (fun (u9 : Nat × Nat) => True) (fun (u9 : Nat × Nat) => stC g a u9.1 u9.2 0 3 1 0 1 (fun _ => 0) (fun _ => 0)) 2 15 := by
  refine CV_of hfl (own := RX4) ⟨1, 2, 15, 20⟩ 2 40 0 (by decide +kernel) rfl rfl ⟨by decide, by decide, by decide +kernel⟩ ⟨by decide, by decide⟩ (le_ble rfl) ?_
  intro p e s m below meth c A Q F hin ret
  change J p l e _ s m _ below meth c A D _ Q 0 0 ([(a, .inr (4, [.null, .int (iI 0), .int (iI 0), .int (iI 0), .int (iI 0), .int (iI 0), .null]))]) [(0, .ref a)] [] 0
  refine j_aload_n F dX4_init_0 rfl 0 rfl ?_
  refine j_objInit F (List.mem_cons_of_mem _ (List.mem_append_left _ (List.mem_of_getElem? (i := 0) rfl))) (List.mem_cons_of_mem _ (List.mem_append_left _ (List.mem_of_getElem? (i := 1) rfl))) (List.mem_cons_of_mem _ (List.mem_append_left _ (List.mem_of_getElem? (i := 2) rfl))) (le_ble rfl) (by decide) (by decide) dX4_init_1 ?_
  refine j_aload_n F dX4_init_4 rfl 0 rfl ?_
  refine j_bipush F dX4_init_5 (by decide) ?_
  refine j_newa_i F (ws' := fun q7 => [(a, .inr (4, [.null, .int (iI 0), .int (iI 0), .int (iI 0), .int (iI 0), .int (iI 0), .null]))] ++ ([(q7, iR g 12 (fun _ => 0))])) 12 rfl (by decide) (List.mem_cons_of_mem _ (List.mem_append_left _ (List.mem_of_getElem? (i := 3) rfl))) (by decide) (by decide) dX4_init_7 (fun _ => rfl) (fun q7 => ?_)
  refine j_putF F hin (ref := "CairnGame$State") (C := RX4) (T := TX4) (N := 7) (ci := 4) (index := 9) (ty := (.array .int)) (ws' := [(a, .inr (4, [.ref q7, .int (iI 0), .int (iI 0), .int (iI 0), .int (iI 0), .int (iI 0), .null]))] ++ ([(q7, iR g 12 (fun _ => 0))])) (fun w h => (List.mem_cons_of_mem _ (List.mem_append_right _ h))) tyX4 tyX4_ok nmX4 0 rfl rfl 0 (by decide) (List.mem_cons_of_mem _ (List.mem_append_left _ (List.mem_of_getElem? (i := 4) rfl))) rfl rfl rfl rfl rfl rfl (lt_ble rfl) rfl dX4_init_9 ?_
  refine j_aload_n F dX4_init_12 rfl 0 rfl ?_
  refine j_iconst F dX4_init_13 ?_
  refine j_putf F (ref := "CairnGame$State") (C := RX4) (T := TX4) (N := 7) (ci := 4) (index := 15) (ty := .int) (ws' := [(a, .inr (4, [.ref q7, .int (iI 0), .int (iI 0), .int (iI 0), .int (iI 0), .int (iI 0), .null]))] ++ ([(q7, iR g 12 (fun _ => 0))])) (fun w h => (List.mem_cons_of_mem _ (List.mem_append_right _ h))) tyX4 tyX4_ok nmX4 0 rfl rfl 1 (by decide) (List.mem_cons_of_mem _ (List.mem_append_left _ (List.mem_of_getElem? (i := 5) rfl))) rfl rfl rfl rfl rfl (lt_ble rfl) rfl dX4_init_14 ?_
  refine j_aload_n F dX4_init_17 rfl 0 rfl ?_
  refine j_iconst F dX4_init_18 ?_
  refine j_putf F (ref := "CairnGame$State") (C := RX4) (T := TX4) (N := 7) (ci := 4) (index := 19) (ty := .int) (ws' := [(a, .inr (4, [.ref q7, .int (iI 0), .int (iI 3), .int (iI 0), .int (iI 0), .int (iI 0), .null]))] ++ ([(q7, iR g 12 (fun _ => 0))])) (fun w h => (List.mem_cons_of_mem _ (List.mem_append_right _ h))) tyX4 tyX4_ok nmX4 0 rfl rfl 2 (by decide) (List.mem_cons_of_mem _ (List.mem_append_left _ (List.mem_of_getElem? (i := 6) rfl))) rfl rfl rfl rfl rfl (lt_ble rfl) rfl dX4_init_19 ?_
  refine j_aload_n F dX4_init_22 rfl 0 rfl ?_
  refine j_iconst F dX4_init_23 ?_
  refine j_putf F (ref := "CairnGame$State") (C := RX4) (T := TX4) (N := 7) (ci := 4) (index := 22) (ty := .boolean) (ws' := [(a, .inr (4, [.ref q7, .int (iI 0), .int (iI 3), .int (iI 1), .int (iI 0), .int (iI 0), .null]))] ++ ([(q7, iR g 12 (fun _ => 0))])) (fun w h => (List.mem_cons_of_mem _ (List.mem_append_right _ h))) tyX4 tyX4_ok nmX4 0 rfl rfl 3 (by decide) (List.mem_cons_of_mem _ (List.mem_append_left _ (List.mem_of_getElem? (i := 7) rfl))) rfl rfl rfl (nar_zb (Or.inr rfl)) (fit_zb (Or.inr rfl)) (lt_ble rfl) rfl dX4_init_24 ?_
  refine j_aload_n F dX4_init_27 rfl 0 rfl ?_
  refine j_iconst F dX4_init_28 ?_
  refine j_putf F (ref := "CairnGame$State") (C := RX4) (T := TX4) (N := 7) (ci := 4) (index := 26) (ty := .boolean) (ws' := [(a, .inr (4, [.ref q7, .int (iI 0), .int (iI 3), .int (iI 1), .int (iI 0), .int (iI 0), .null]))] ++ ([(q7, iR g 12 (fun _ => 0))])) (fun w h => (List.mem_cons_of_mem _ (List.mem_append_right _ h))) tyX4 tyX4_ok nmX4 0 rfl rfl 4 (by decide) (List.mem_cons_of_mem _ (List.mem_append_left _ (List.mem_of_getElem? (i := 8) rfl))) rfl rfl rfl (nar_zb (Or.inl rfl)) (fit_zb (Or.inl rfl)) (lt_ble rfl) rfl dX4_init_29 ?_
  refine j_aload_n F dX4_init_32 rfl 0 rfl ?_
  refine j_iconst F dX4_init_33 ?_
  refine j_putf F (ref := "CairnGame$State") (C := RX4) (T := TX4) (N := 7) (ci := 4) (index := 29) (ty := .boolean) (ws' := [(a, .inr (4, [.ref q7, .int (iI 0), .int (iI 3), .int (iI 1), .int (iI 0), .int (iI 1), .null]))] ++ ([(q7, iR g 12 (fun _ => 0))])) (fun w h => (List.mem_cons_of_mem _ (List.mem_append_right _ h))) tyX4 tyX4_ok nmX4 0 rfl rfl 5 (by decide) (List.mem_cons_of_mem _ (List.mem_append_left _ (List.mem_of_getElem? (i := 9) rfl))) rfl rfl rfl (nar_zb (Or.inr rfl)) (fit_zb (Or.inr rfl)) (lt_ble rfl) rfl dX4_init_34 ?_
  refine j_aload_n F dX4_init_37 rfl 0 rfl ?_
  refine j_iconst F dX4_init_38 ?_
  refine j_newa_i F (ws' := fun q39 => [(a, .inr (4, [.ref q7, .int (iI 0), .int (iI 3), .int (iI 1), .int (iI 0), .int (iI 1), .null]))] ++ ([(q7, iR g 12 (fun _ => 0))] ++ ([(q39, iR g 3 (fun _ => 0))]))) 3 rfl (by decide) (List.mem_cons_of_mem _ (List.mem_append_left _ (List.mem_of_getElem? (i := 3) rfl))) (by decide) (by decide) dX4_init_39 (fun _ => rfl) (fun q39 => ?_)
  refine j_putF F hin (ref := "CairnGame$State") (C := RX4) (T := TX4) (N := 7) (ci := 4) (index := 32) (ty := (.array .int)) (ws' := [(a, .inr (4, [.ref q7, .int (iI 0), .int (iI 3), .int (iI 1), .int (iI 0), .int (iI 1), .ref q39]))] ++ ([(q7, iR g 12 (fun _ => 0))] ++ ([(q39, iR g 3 (fun _ => 0))]))) (fun w h => (List.mem_cons_of_mem _ (List.mem_append_right _ h))) tyX4 tyX4_ok nmX4 0 rfl rfl 6 (by decide) (List.mem_cons_of_mem _ (List.mem_append_left _ (List.mem_of_getElem? (i := 10) rfl))) rfl rfl rfl rfl rfl rfl (lt_ble rfl) rfl dX4_init_41 ?_
  exact ret (q7, q39) 2 15 _ _ dX4_init_44 (by decide) (by decide) trivial

end X4
