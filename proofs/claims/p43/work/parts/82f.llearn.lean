/-! ===== LAW: note and learn ===== -/
section LLEARN
theorem c1F_b (c a x : Nat) : -1 ≤ c1F c a x ∧ c1F c a x ≤ 7 := by
  have h1 := cI_b c a
  have h2 := cI_b c x
  unfold c1F nup
  split <;> omega
theorem sp_back (c a v : Nat) : nup (nup (spF c a v) v (spF c a v v - 1)) (a - v) (nup (spF c a v) v (spF c a v v - 1) (a - v) - 1) = c1F c a := by
  funext j
  by_cases h1 : j = v
  · by_cases h2 : j = a - v
    · have h3 : a - v = v := by omega
      simp only [spF, s1F, nup, h1, h3, if_true]
      omega
    · have h3 : ¬ v = a - v := by omega
      simp only [spF, s1F, nup, h1, h3, if_true, if_false]
      omega
  · by_cases h2 : j = a - v
    · have h3 : ¬ a - v = v := by omega
      simp only [spF, s1F, nup, h2, h3, if_true, if_false]
      omega
    · simp only [spF, s1F, nup, h1, h2, if_false]
theorem tk_back (c a v : Nat) : nup (tkF c a v) (a - v) (tkF c a v (a - v) - 1) = c1F c a := by
  unfold tkF
  exact nup_id _ _ (by rw [nup_s]; omega)
theorem mg_back1 (c a d : Nat) : nup (mgF c a d) (a + d - 1) (mgF c a d (a + d - 1) - 1) = m1F c a d := by
  unfold mgF
  exact nup_id _ _ (by rw [nup_s]; omega)
theorem mg_back2 (c a d : Nat) : nup (m1F c a d) d (m1F c a d d + 1) = c1F c a := by
  unfold m1F
  exact nup_id _ _ (by rw [nup_s]; omega)
theorem c1_back (c a : Nat) : nup (c1F c a) a (c1F c a a + 1) = cI c := by
  unfold c1F
  exact nup_id _ _ (by rw [nup_s]; omega)
theorem ntk_s {c a v : Nat} (h : 1 ≤ v) : ntk c a ((v + 1) - 1) = ntk c a (v - 1) ++ [tkN c a v] := by
  obtain ⟨j, rfl⟩ : ∃ j, v = j + 1 := ⟨v - 1, by omega⟩
  rfl
theorem nsp_s {c a v : Nat} (h : 1 ≤ v) : nsp c a ((v + 1) - 1) = nsp c a (v - 1) ++ [spN c a v] := by
  obtain ⟨j, rfl⟩ : ∃ j, v = j + 1 := ⟨v - 1, by omega⟩
  rfl
theorem nmg_s {c a v : Nat} (h : 1 ≤ v) : nmg c a ((v + 1) - 1) = nmg c a (v - 1) ++ (if c1F c a v = 0 then [] else [mgN c a v]) := by
  obtain ⟨j, rfl⟩ : ∃ j, v = j + 1 := ⟨v - 1, by omega⟩
  rfl
theorem nxA_s {G S M c a : Nat} (h : 1 ≤ a) : nxA G S M c ((a + 1) - 1) = nxA G S M c (a - 1) ++ (if cI c a = 0 then [] else ntk c a (min G a) ++ ((if S = 1 then nsp c a (a / 2) else []) ++ (if M = 1 then nmg c a 7 else []))) := by
  obtain ⟨j, rfl⟩ : ∃ j, a = j + 1 := ⟨a - 1, by omega⟩
  rfl
/-- what learn holds of the position k when the positions ns behind it are noted -/
def lnI (G S M k : Nat) (ns : List Nat) (B : Nat) (wk lk bk : Int) : Prop := (∀ i ∈ ns, i < k) ∧ (if k = 0 then B = 0 ∧ wk = 1 ∧ lk = 0 ∧ bk = 0 else acI (nxV G S M ns) B wk lk bk)
theorem lnI_0 (G S M k : Nat) : lnI G S M k [] 0 (if k = 0 then 1 else 0) 0 (if k = 0 then 0 else 99) := by
  refine ⟨fun i hi => absurd hi List.not_mem_nil, ?_⟩
  by_cases h : k = 0
  · rw [if_pos h, if_pos h, if_pos h]
    exact ⟨rfl, rfl, rfl, rfl⟩
  · rw [if_neg h, if_neg h, if_neg h]
    exact acI_0
theorem lnI_b {G S M k : Nat} {ns : List Nat} {B : Nat} {wk lk bk : Int} (h : lnI G S M k ns B wk lk bk) (hk : k < 45) : (wk = 0 ∨ wk = 1) ∧ 0 ≤ lk ∧ lk ≤ 24 ∧ 0 ≤ bk ∧ bk ≤ 99 := by
  obtain ⟨h1, h2⟩ := h
  by_cases q : k = 0
  · rw [if_pos q] at h2
    omega
  · rw [if_neg q] at h2
    refine ac_b (fun v hv => ?_) h2
    obtain ⟨i, hi, rfl⟩ := List.mem_map.mp hv
    have := h1 i hi
    exact (vC_b (by omega)).2.2.1
theorem lnI_s {G S M k : Nat} {ns : List Nat} {B : Nat} {wk lk bk : Int} (h : lnI G S M k ns B wk lk bk) (hk : k < 45) {i : Nat} (hi : i < k) : lnI G S M k (ns ++ [i]) (B ||| 2 ^ (vC G S M (posL.getD i 0)).1) (if (((vC G S M (posL.getD i 0)).2.1 : Nat) : Int) = 0 then 1 else wk) (if lk < (((vC G S M (posL.getD i 0)).2.2.1 : Nat) : Int) + 1 then (((vC G S M (posL.getD i 0)).2.2.1 : Nat) : Int) + 1 else lk) (if (((vC G S M (posL.getD i 0)).2.2.2 : Nat) : Int) + 1 < bk then (((vC G S M (posL.getD i 0)).2.2.2 : Nat) : Int) + 1 else bk) := by
  obtain ⟨h1, h2⟩ := h
  have q : ¬ k = 0 := by omega
  rw [if_neg q] at h2
  refine ⟨fun j hj => ?_, ?_⟩
  · rcases List.mem_append.mp hj with e | e
    · exact h1 j e
    · rw [List.mem_singleton.mp e]; exact hi
  · rw [if_neg q]
    have e : nxV G S M (ns ++ [i]) = nxV G S M ns ++ [vC G S M (posL.getD i 0)] := by
      unfold nxV
      rw [List.map_append]
      rfl
    rw [e]
    exact acI_s h2 (vC_b (by omega)).1
/-- the numbers seen, as bits -/
def lnB (G S M k : Nat) (ns : List Nat) : List Nat := if k = 0 then [] else (nxV G S M ns).map (fun w => w.1)
theorem lnI_t {G S M k : Nat} {ns : List Nat} {B : Nat} {wk lk bk : Int} (h : lnI G S M k ns B wk lk bk) : B < 2 ^ 24 ∧ ∀ x, B.testBit x = true ↔ x ∈ lnB G S M k ns := by
  obtain ⟨h1, h2⟩ := h
  unfold lnB
  by_cases q : k = 0
  · rw [if_pos q] at h2 ⊢
    rw [h2.1]
    exact ⟨by decide, fun x => by simp⟩
  · rw [if_neg q] at h2 ⊢
    exact ⟨h2.1, h2.2.1⟩
theorem lnI_24 {G S M k : Nat} {ns : List Nat} {B : Nat} {wk lk bk : Int} (h : lnI G S M k ns B wk lk bk) {x : Nat} (hx : B.testBit x = true) : x < 24 := by
  have h1 := (lnI_t h).1
  rcases Nat.lt_or_ge x 24 with w | w
  · exact w
  · have h2 : B < 2 ^ x := Nat.lt_of_lt_of_le h1 (Nat.pow_le_pow_right (by decide) w)
    rw [Nat.testBit_lt_two_pow h2] at hx
    cases hx
theorem lnI_e {G S M k : Nat} (hG : 1 ≤ G ∧ G ≤ 5) (hS : S ≤ 1) (hM : M ≤ 1) (hk : k < 45) {B : Nat} {wk lk bk : Int} (h : lnI G S M k (nxA G S M (posL.getD k 0) 7) B wk lk bk) : mexF (lnB G S M k (nxA G S M (posL.getD k 0) 7)) 63 0 = (vC G S M (posL.getD k 0)).1 ∧ wk = (((vC G S M (posL.getD k 0)).2.1 : Nat) : Int) ∧ lk = (((vC G S M (posL.getD k 0)).2.2.1 : Nat) : Int) ∧ bk = (((vC G S M (posL.getD k 0)).2.2.2 : Nat) : Int) := by
  obtain ⟨n1, n2⟩ := nx_val (M := M) (S := S) hk hG hS hM
  obtain ⟨h1, h2⟩ := h
  unfold lnB
  by_cases q : k = 0
  · rw [if_pos q] at h2 ⊢
    rw [n2.mp q] at n1
    rw [← n1]
    obtain ⟨-, e1, e2, e3⟩ := h2
    exact ⟨rfl, e1, e2, e3⟩
  · rw [if_neg q] at h2 ⊢
    have hne : nxV G S M (nxA G S M (posL.getD k 0) 7) ≠ [] := fun e => q (n2.mpr (List.map_eq_nil_iff.mp e))
    have hb : ∀ v ∈ nxV G S M (nxA G S M (posL.getD k 0) 7), v.2.2.2 ≤ 23 := by
      intro v hv
      obtain ⟨i, hi, rfl⟩ := List.mem_map.mp hv
      have := h1 i hi
      exact (vC_b (by omega)).2.2.2
    obtain ⟨e1, e2, e3, e4⟩ := ac_end h2 hne hb
    rw [n1] at e1 e2 e3 e4
    exact ⟨e4.symm, e1, e2, e3⟩
theorem tab_up {G S M k : Nat} {gF wF lF bF : NF} (h : ∀ i, i < k → tabAt gF lF bF wF i (vC G S M (posL.getD i 0))) {gk wk lk bk : Int} (e0 : gk = (((vC G S M (posL.getD k 0)).1 : Nat) : Int)) (e1 : wk = (((vC G S M (posL.getD k 0)).2.1 : Nat) : Int)) (e2 : lk = (((vC G S M (posL.getD k 0)).2.2.1 : Nat) : Int)) (e3 : bk = (((vC G S M (posL.getD k 0)).2.2.2 : Nat) : Int)) : ∀ i, i < k + 1 → tabAt (nup gF k gk) (nup lF k lk) (nup bF k bk) (nup wF k wk) i (vC G S M (posL.getD i 0)) := by
  intro i hi
  by_cases q : i = k
  · subst q
    exact ⟨by rw [nup_s, e0], by rw [nup_s, e2], by rw [nup_s, e3], by rw [nup_s, e1]⟩
  · obtain ⟨t1, t2, t3, t4⟩ := h i (by omega)
    exact ⟨by rw [nup_n _ _ q, t1], by rw [nup_n _ _ q, t2], by rw [nup_n _ _ q, t3], by rw [nup_n _ _ q, t4]⟩

set_option maxHeartbeats 4000000 in
set_option maxRecDepth 100000 in
theorem c_L_note {l : Launch} (hfl : l.flags = flags0) (D : va_G) (g : GT) (z : ZT) (ga wa la ba B i9 k gv : Nat) (gF wF lF bF : NF) (hi : i9 < 64) (hk : k < 64) (hgv : gF i9 = ((gv : Nat) : Int)) (hg2 : gv < 63) (hw : 0 ≤ wF i9 ∧ wF i9 ≤ 1) (hl : 0 ≤ lF i9 ∧ lF i9 ≤ 1000 ∧ 0 ≤ lF k ∧ lF k ≤ 1000) (hb : 0 ≤ bF i9 ∧ bF i9 ≤ 1000 ∧ 0 ≤ bF k ∧ bF k ≤ 1000) : CL l yL_note wsL_note 1 27 7 D g z [.long (lN B), .int (iI (i9 : Int)), .int (iI (k : Int)), .ref ga, .ref wa, .ref la, .ref ba] ([(ga, iR g 64 gF)] ++ ([(wa, iR g 64 wF)] ++ ([(la, iR g 64 lF)] ++ ([(ba, iR g 64 bF)])))) (fun (r9 : Int64) (u9 : Unit) => r9 = lN (B ||| 2 ^ gv)) (fun (u9 : Unit) => [(ga, iR g 64 gF)] ++ ([(wa, iR g 64 (nup wF k (if wF i9 = 0 then 1 else wF k)))] ++ ([(la, iR g 64 (nup lF k (if lF k < lF i9 + 1 then lF i9 + 1 else lF k)))] ++ ([(ba, iR g 64 (nup bF k (if bF i9 + 1 < bF k then bF i9 + 1 else bF k)))])))) 0 0 := by
  refine CL_of hfl (own := RL) ⟨0, 0, 0, 0⟩ 1 27 7 (by decide +kernel) rfl rfl ⟨by decide, by decide, by decide +kernel⟩ ⟨by decide, by decide⟩ (le_ble rfl) ?_
  intro p e s m below meth c A Q F ret
  change J p l e _ s m _ below meth c A D _ Q 0 0 ([(ga, iR g 64 gF)] ++ ([(wa, iR g 64 wF)] ++ ([(la, iR g 64 lF)] ++ ([(ba, iR g 64 bF)])))) [(0, .long (lN B)), (2, .int (iI (i9 : Int))), (3, .int (iI (k : Int))), (4, .ref ga), (5, .ref wa), (6, .ref la), (7, .ref ba)] [] 0
  refine j_aload F dL_note_0 4 rfl ?_
  refine j_iload_n F dL_note_2 rfl 1 rfl ?_
  refine j_iald F 1 (n := 64) (f := wF) rfl i9 (rfl) (by omega) (by decide) dL_note_3 ?_
  refine j_if_ne F (tgt := 12) dL_note_4 (by decide) (by unfold rg; omega) (fun c4 => ?_) (fun c4 => ?_)
  · refine J.wsEq (ws2 := [(ga, iR g 64 gF)] ++ ([(wa, iR g 64 (nup wF k (if wF i9 = 0 then 1 else wF k)))] ++ ([(la, iR g 64 lF)] ++ ([(ba, iR g 64 bF)])))) (by first | (rw [if_neg c4, nup_me]) | (dsimp only; rw [if_neg c4, nup_me])) ?_
    refine j_aload F dL_note_12 5 rfl ?_
    refine j_iload_n F dL_note_14 rfl 2 rfl ?_
    refine j_aload F dL_note_15 5 rfl ?_
    refine j_iload_n F dL_note_17 rfl 1 rfl ?_
    refine j_iald F 2 (n := 64) (f := lF) rfl i9 (rfl) (by omega) (by decide) dL_note_18 ?_
    refine j_iconst F dL_note_19 ?_
    refine j_iadd F dL_note_20 ?_
    refine j_aload F dL_note_21 5 rfl ?_
    refine j_iload_n F dL_note_23 rfl 2 rfl ?_
    refine j_iald F 2 (n := 64) (f := lF) rfl k (rfl) (by omega) (by decide) dL_note_24 ?_
    refine j_icmp_le F (tgt := 37) dL_note_25 (by decide) ⟨(by unfold rg; omega), (by unfold rg; omega)⟩ (fun c25 => ?_) (fun c25 => ?_)
    · refine j_aload F dL_note_37 5 rfl ?_
      refine j_iload_n F dL_note_39 rfl 2 rfl ?_
      refine j_iald F 2 (n := 64) (f := lF) rfl k (rfl) (by omega) (by decide) dL_note_40 ?_
      refine J.top (congrArg iI (show lF k = (if lF k < lF i9 + 1 then lF i9 + 1 else lF k) from by rw [if_neg (by omega)])) ?_
      refine j_iast F (ws' := [(ga, iR g 64 gF)] ++ ([(wa, iR g 64 (nup wF k (if wF i9 = 0 then 1 else wF k)))] ++ ([(la, iR g 64 (nup lF k (if lF k < lF i9 + 1 then lF i9 + 1 else lF k)))] ++ ([(ba, iR g 64 bF)])))) 2 (n := 64) (f := lF) rfl k (rfl) (by omega) (by decide) rfl dL_note_41 ?_
      refine j_aload F dL_note_42 6 rfl ?_
      refine j_iload_n F dL_note_44 rfl 2 rfl ?_
      refine j_aload F dL_note_45 6 rfl ?_
      refine j_iload_n F dL_note_47 rfl 1 rfl ?_
      refine j_iald F 3 (n := 64) (f := bF) rfl i9 (rfl) (by omega) (by decide) dL_note_48 ?_
      refine j_iconst F dL_note_49 ?_
      refine j_iadd F dL_note_50 ?_
      refine j_aload F dL_note_51 6 rfl ?_
      refine j_iload_n F dL_note_53 rfl 2 rfl ?_
      refine j_iald F 3 (n := 64) (f := bF) rfl k (rfl) (by omega) (by decide) dL_note_54 ?_
      refine j_icmp_ge F (tgt := 67) dL_note_55 (by decide) ⟨(by unfold rg; omega), (by unfold rg; omega)⟩ (fun c55 => ?_) (fun c55 => ?_)
      · refine j_aload F dL_note_67 6 rfl ?_
        refine j_iload_n F dL_note_69 rfl 2 rfl ?_
        refine j_iald F 3 (n := 64) (f := bF) rfl k (rfl) (by omega) (by decide) dL_note_70 ?_
        refine J.top (congrArg iI (show bF k = (if bF i9 + 1 < bF k then bF i9 + 1 else bF k) from by rw [if_neg (by omega)])) ?_
        refine j_iast F (ws' := [(ga, iR g 64 gF)] ++ ([(wa, iR g 64 (nup wF k (if wF i9 = 0 then 1 else wF k)))] ++ ([(la, iR g 64 (nup lF k (if lF k < lF i9 + 1 then lF i9 + 1 else lF k)))] ++ ([(ba, iR g 64 (nup bF k (if bF i9 + 1 < bF k then bF i9 + 1 else bF k)))])))) 3 (n := 64) (f := bF) rfl k (rfl) (by omega) (by decide) rfl dL_note_71 ?_
        refine j_lload_n F dL_note_72 rfl 0 rfl ?_
        refine j_lconst F dL_note_73 ?_
        refine j_aload F dL_note_74 3 rfl ?_
        refine j_iload_n F dL_note_76 rfl 1 rfl ?_
        refine j_iald F 0 (n := 64) (f := gF) rfl i9 (rfl) (by omega) (by decide) dL_note_77 ?_
        refine J.top (congrArg iI (show gF i9 = (gv : Int) from hgv)) ?_
        refine j_lshl F rfl dL_note_78 ?_
        refine J.topL (show (1 <<< ((iI (gv : Int)).toInt64 &&& 63)) = (lN (2 ^ gv)) from lb_one _ (by omega)) ?_
        refine j_lor F dL_note_79 ?_
        refine J.topL (show ((lN B) ||| (lN (2 ^ gv))) = (lN (B ||| 2 ^ gv)) from lb_or _ _) ?_
        exact ret _ () 0 0 _ _ dL_note_80 (by decide) (by decide) rfl
      · refine j_aload F dL_note_58 6 rfl ?_
        refine j_iload_n F dL_note_60 rfl 1 rfl ?_
        refine j_iald F 3 (n := 64) (f := bF) rfl i9 (rfl) (by omega) (by decide) dL_note_61 ?_
        refine j_iconst F dL_note_62 ?_
        refine j_iadd F dL_note_63 ?_
        refine J.top (congrArg iI (show (bF i9 + 1) = (if bF i9 + 1 < bF k then bF i9 + 1 else bF k) from by rw [if_pos (by omega)])) ?_
        refine j_goto F (tgt := 71) dL_note_64 (by decide) ?_
        refine j_iast F (ws' := [(ga, iR g 64 gF)] ++ ([(wa, iR g 64 (nup wF k (if wF i9 = 0 then 1 else wF k)))] ++ ([(la, iR g 64 (nup lF k (if lF k < lF i9 + 1 then lF i9 + 1 else lF k)))] ++ ([(ba, iR g 64 (nup bF k (if bF i9 + 1 < bF k then bF i9 + 1 else bF k)))])))) 3 (n := 64) (f := bF) rfl k (rfl) (by omega) (by decide) rfl dL_note_71 ?_
        refine j_lload_n F dL_note_72 rfl 0 rfl ?_
        refine j_lconst F dL_note_73 ?_
        refine j_aload F dL_note_74 3 rfl ?_
        refine j_iload_n F dL_note_76 rfl 1 rfl ?_
        refine j_iald F 0 (n := 64) (f := gF) rfl i9 (rfl) (by omega) (by decide) dL_note_77 ?_
        refine J.top (congrArg iI (show gF i9 = (gv : Int) from hgv)) ?_
        refine j_lshl F rfl dL_note_78 ?_
        refine J.topL (show (1 <<< ((iI (gv : Int)).toInt64 &&& 63)) = (lN (2 ^ gv)) from lb_one _ (by omega)) ?_
        refine j_lor F dL_note_79 ?_
        refine J.topL (show ((lN B) ||| (lN (2 ^ gv))) = (lN (B ||| 2 ^ gv)) from lb_or _ _) ?_
        exact ret _ () 0 0 _ _ dL_note_80 (by decide) (by decide) rfl
    · refine j_aload F dL_note_28 5 rfl ?_
      refine j_iload_n F dL_note_30 rfl 1 rfl ?_
      refine j_iald F 2 (n := 64) (f := lF) rfl i9 (rfl) (by omega) (by decide) dL_note_31 ?_
      refine j_iconst F dL_note_32 ?_
      refine j_iadd F dL_note_33 ?_
      refine J.top (congrArg iI (show (lF i9 + 1) = (if lF k < lF i9 + 1 then lF i9 + 1 else lF k) from by rw [if_pos (by omega)])) ?_
      refine j_goto F (tgt := 41) dL_note_34 (by decide) ?_
      refine j_iast F (ws' := [(ga, iR g 64 gF)] ++ ([(wa, iR g 64 (nup wF k (if wF i9 = 0 then 1 else wF k)))] ++ ([(la, iR g 64 (nup lF k (if lF k < lF i9 + 1 then lF i9 + 1 else lF k)))] ++ ([(ba, iR g 64 bF)])))) 2 (n := 64) (f := lF) rfl k (rfl) (by omega) (by decide) rfl dL_note_41 ?_
      refine j_aload F dL_note_42 6 rfl ?_
      refine j_iload_n F dL_note_44 rfl 2 rfl ?_
      refine j_aload F dL_note_45 6 rfl ?_
      refine j_iload_n F dL_note_47 rfl 1 rfl ?_
      refine j_iald F 3 (n := 64) (f := bF) rfl i9 (rfl) (by omega) (by decide) dL_note_48 ?_
      refine j_iconst F dL_note_49 ?_
      refine j_iadd F dL_note_50 ?_
      refine j_aload F dL_note_51 6 rfl ?_
      refine j_iload_n F dL_note_53 rfl 2 rfl ?_
      refine j_iald F 3 (n := 64) (f := bF) rfl k (rfl) (by omega) (by decide) dL_note_54 ?_
      refine j_icmp_ge F (tgt := 67) dL_note_55 (by decide) ⟨(by unfold rg; omega), (by unfold rg; omega)⟩ (fun c55 => ?_) (fun c55 => ?_)
      · refine j_aload F dL_note_67 6 rfl ?_
        refine j_iload_n F dL_note_69 rfl 2 rfl ?_
        refine j_iald F 3 (n := 64) (f := bF) rfl k (rfl) (by omega) (by decide) dL_note_70 ?_
        refine J.top (congrArg iI (show bF k = (if bF i9 + 1 < bF k then bF i9 + 1 else bF k) from by rw [if_neg (by omega)])) ?_
        refine j_iast F (ws' := [(ga, iR g 64 gF)] ++ ([(wa, iR g 64 (nup wF k (if wF i9 = 0 then 1 else wF k)))] ++ ([(la, iR g 64 (nup lF k (if lF k < lF i9 + 1 then lF i9 + 1 else lF k)))] ++ ([(ba, iR g 64 (nup bF k (if bF i9 + 1 < bF k then bF i9 + 1 else bF k)))])))) 3 (n := 64) (f := bF) rfl k (rfl) (by omega) (by decide) rfl dL_note_71 ?_
        refine j_lload_n F dL_note_72 rfl 0 rfl ?_
        refine j_lconst F dL_note_73 ?_
        refine j_aload F dL_note_74 3 rfl ?_
        refine j_iload_n F dL_note_76 rfl 1 rfl ?_
        refine j_iald F 0 (n := 64) (f := gF) rfl i9 (rfl) (by omega) (by decide) dL_note_77 ?_
        refine J.top (congrArg iI (show gF i9 = (gv : Int) from hgv)) ?_
        refine j_lshl F rfl dL_note_78 ?_
        refine J.topL (show (1 <<< ((iI (gv : Int)).toInt64 &&& 63)) = (lN (2 ^ gv)) from lb_one _ (by omega)) ?_
        refine j_lor F dL_note_79 ?_
        refine J.topL (show ((lN B) ||| (lN (2 ^ gv))) = (lN (B ||| 2 ^ gv)) from lb_or _ _) ?_
        exact ret _ () 0 0 _ _ dL_note_80 (by decide) (by decide) rfl
      · refine j_aload F dL_note_58 6 rfl ?_
        refine j_iload_n F dL_note_60 rfl 1 rfl ?_
        refine j_iald F 3 (n := 64) (f := bF) rfl i9 (rfl) (by omega) (by decide) dL_note_61 ?_
        refine j_iconst F dL_note_62 ?_
        refine j_iadd F dL_note_63 ?_
        refine J.top (congrArg iI (show (bF i9 + 1) = (if bF i9 + 1 < bF k then bF i9 + 1 else bF k) from by rw [if_pos (by omega)])) ?_
        refine j_goto F (tgt := 71) dL_note_64 (by decide) ?_
        refine j_iast F (ws' := [(ga, iR g 64 gF)] ++ ([(wa, iR g 64 (nup wF k (if wF i9 = 0 then 1 else wF k)))] ++ ([(la, iR g 64 (nup lF k (if lF k < lF i9 + 1 then lF i9 + 1 else lF k)))] ++ ([(ba, iR g 64 (nup bF k (if bF i9 + 1 < bF k then bF i9 + 1 else bF k)))])))) 3 (n := 64) (f := bF) rfl k (rfl) (by omega) (by decide) rfl dL_note_71 ?_
        refine j_lload_n F dL_note_72 rfl 0 rfl ?_
        refine j_lconst F dL_note_73 ?_
        refine j_aload F dL_note_74 3 rfl ?_
        refine j_iload_n F dL_note_76 rfl 1 rfl ?_
        refine j_iald F 0 (n := 64) (f := gF) rfl i9 (rfl) (by omega) (by decide) dL_note_77 ?_
        refine J.top (congrArg iI (show gF i9 = (gv : Int) from hgv)) ?_
        refine j_lshl F rfl dL_note_78 ?_
        refine J.topL (show (1 <<< ((iI (gv : Int)).toInt64 &&& 63)) = (lN (2 ^ gv)) from lb_one _ (by omega)) ?_
        refine j_lor F dL_note_79 ?_
        refine J.topL (show ((lN B) ||| (lN (2 ^ gv))) = (lN (B ||| 2 ^ gv)) from lb_or _ _) ?_
        exact ret _ () 0 0 _ _ dL_note_80 (by decide) (by decide) rfl
  · refine j_aload F dL_note_7 4 rfl ?_
    refine j_iload_n F dL_note_9 rfl 2 rfl ?_
    refine j_iconst F dL_note_10 ?_
    refine j_iast F (ws' := [(ga, iR g 64 gF)] ++ ([(wa, iR g 64 (nup wF k 1))] ++ ([(la, iR g 64 lF)] ++ ([(ba, iR g 64 bF)])))) 1 (n := 64) (f := wF) rfl k (rfl) (by omega) (by decide) rfl dL_note_11 ?_
    refine J.wsEq (ws2 := [(ga, iR g 64 gF)] ++ ([(wa, iR g 64 (nup wF k (if wF i9 = 0 then 1 else wF k)))] ++ ([(la, iR g 64 lF)] ++ ([(ba, iR g 64 bF)])))) (by first | (rw [if_pos c4]) | (dsimp only; rw [if_pos c4])) ?_
    refine j_aload F dL_note_12 5 rfl ?_
    refine j_iload_n F dL_note_14 rfl 2 rfl ?_
    refine j_aload F dL_note_15 5 rfl ?_
    refine j_iload_n F dL_note_17 rfl 1 rfl ?_
    refine j_iald F 2 (n := 64) (f := lF) rfl i9 (rfl) (by omega) (by decide) dL_note_18 ?_
    refine j_iconst F dL_note_19 ?_
    refine j_iadd F dL_note_20 ?_
    refine j_aload F dL_note_21 5 rfl ?_
    refine j_iload_n F dL_note_23 rfl 2 rfl ?_
    refine j_iald F 2 (n := 64) (f := lF) rfl k (rfl) (by omega) (by decide) dL_note_24 ?_
    refine j_icmp_le F (tgt := 37) dL_note_25 (by decide) ⟨(by unfold rg; omega), (by unfold rg; omega)⟩ (fun c25 => ?_) (fun c25 => ?_)
    · refine j_aload F dL_note_37 5 rfl ?_
      refine j_iload_n F dL_note_39 rfl 2 rfl ?_
      refine j_iald F 2 (n := 64) (f := lF) rfl k (rfl) (by omega) (by decide) dL_note_40 ?_
      refine J.top (congrArg iI (show lF k = (if lF k < lF i9 + 1 then lF i9 + 1 else lF k) from by rw [if_neg (by omega)])) ?_
      refine j_iast F (ws' := [(ga, iR g 64 gF)] ++ ([(wa, iR g 64 (nup wF k (if wF i9 = 0 then 1 else wF k)))] ++ ([(la, iR g 64 (nup lF k (if lF k < lF i9 + 1 then lF i9 + 1 else lF k)))] ++ ([(ba, iR g 64 bF)])))) 2 (n := 64) (f := lF) rfl k (rfl) (by omega) (by decide) rfl dL_note_41 ?_
      refine j_aload F dL_note_42 6 rfl ?_
      refine j_iload_n F dL_note_44 rfl 2 rfl ?_
      refine j_aload F dL_note_45 6 rfl ?_
      refine j_iload_n F dL_note_47 rfl 1 rfl ?_
      refine j_iald F 3 (n := 64) (f := bF) rfl i9 (rfl) (by omega) (by decide) dL_note_48 ?_
      refine j_iconst F dL_note_49 ?_
      refine j_iadd F dL_note_50 ?_
      refine j_aload F dL_note_51 6 rfl ?_
      refine j_iload_n F dL_note_53 rfl 2 rfl ?_
      refine j_iald F 3 (n := 64) (f := bF) rfl k (rfl) (by omega) (by decide) dL_note_54 ?_
      refine j_icmp_ge F (tgt := 67) dL_note_55 (by decide) ⟨(by unfold rg; omega), (by unfold rg; omega)⟩ (fun c55 => ?_) (fun c55 => ?_)
      · refine j_aload F dL_note_67 6 rfl ?_
        refine j_iload_n F dL_note_69 rfl 2 rfl ?_
        refine j_iald F 3 (n := 64) (f := bF) rfl k (rfl) (by omega) (by decide) dL_note_70 ?_
        refine J.top (congrArg iI (show bF k = (if bF i9 + 1 < bF k then bF i9 + 1 else bF k) from by rw [if_neg (by omega)])) ?_
        refine j_iast F (ws' := [(ga, iR g 64 gF)] ++ ([(wa, iR g 64 (nup wF k (if wF i9 = 0 then 1 else wF k)))] ++ ([(la, iR g 64 (nup lF k (if lF k < lF i9 + 1 then lF i9 + 1 else lF k)))] ++ ([(ba, iR g 64 (nup bF k (if bF i9 + 1 < bF k then bF i9 + 1 else bF k)))])))) 3 (n := 64) (f := bF) rfl k (rfl) (by omega) (by decide) rfl dL_note_71 ?_
        refine j_lload_n F dL_note_72 rfl 0 rfl ?_
        refine j_lconst F dL_note_73 ?_
        refine j_aload F dL_note_74 3 rfl ?_
        refine j_iload_n F dL_note_76 rfl 1 rfl ?_
        refine j_iald F 0 (n := 64) (f := gF) rfl i9 (rfl) (by omega) (by decide) dL_note_77 ?_
        refine J.top (congrArg iI (show gF i9 = (gv : Int) from hgv)) ?_
        refine j_lshl F rfl dL_note_78 ?_
        refine J.topL (show (1 <<< ((iI (gv : Int)).toInt64 &&& 63)) = (lN (2 ^ gv)) from lb_one _ (by omega)) ?_
        refine j_lor F dL_note_79 ?_
        refine J.topL (show ((lN B) ||| (lN (2 ^ gv))) = (lN (B ||| 2 ^ gv)) from lb_or _ _) ?_
        exact ret _ () 0 0 _ _ dL_note_80 (by decide) (by decide) rfl
      · refine j_aload F dL_note_58 6 rfl ?_
        refine j_iload_n F dL_note_60 rfl 1 rfl ?_
        refine j_iald F 3 (n := 64) (f := bF) rfl i9 (rfl) (by omega) (by decide) dL_note_61 ?_
        refine j_iconst F dL_note_62 ?_
        refine j_iadd F dL_note_63 ?_
        refine J.top (congrArg iI (show (bF i9 + 1) = (if bF i9 + 1 < bF k then bF i9 + 1 else bF k) from by rw [if_pos (by omega)])) ?_
        refine j_goto F (tgt := 71) dL_note_64 (by decide) ?_
        refine j_iast F (ws' := [(ga, iR g 64 gF)] ++ ([(wa, iR g 64 (nup wF k (if wF i9 = 0 then 1 else wF k)))] ++ ([(la, iR g 64 (nup lF k (if lF k < lF i9 + 1 then lF i9 + 1 else lF k)))] ++ ([(ba, iR g 64 (nup bF k (if bF i9 + 1 < bF k then bF i9 + 1 else bF k)))])))) 3 (n := 64) (f := bF) rfl k (rfl) (by omega) (by decide) rfl dL_note_71 ?_
        refine j_lload_n F dL_note_72 rfl 0 rfl ?_
        refine j_lconst F dL_note_73 ?_
        refine j_aload F dL_note_74 3 rfl ?_
        refine j_iload_n F dL_note_76 rfl 1 rfl ?_
        refine j_iald F 0 (n := 64) (f := gF) rfl i9 (rfl) (by omega) (by decide) dL_note_77 ?_
        refine J.top (congrArg iI (show gF i9 = (gv : Int) from hgv)) ?_
        refine j_lshl F rfl dL_note_78 ?_
        refine J.topL (show (1 <<< ((iI (gv : Int)).toInt64 &&& 63)) = (lN (2 ^ gv)) from lb_one _ (by omega)) ?_
        refine j_lor F dL_note_79 ?_
        refine J.topL (show ((lN B) ||| (lN (2 ^ gv))) = (lN (B ||| 2 ^ gv)) from lb_or _ _) ?_
        exact ret _ () 0 0 _ _ dL_note_80 (by decide) (by decide) rfl
    · refine j_aload F dL_note_28 5 rfl ?_
      refine j_iload_n F dL_note_30 rfl 1 rfl ?_
      refine j_iald F 2 (n := 64) (f := lF) rfl i9 (rfl) (by omega) (by decide) dL_note_31 ?_
      refine j_iconst F dL_note_32 ?_
      refine j_iadd F dL_note_33 ?_
      refine J.top (congrArg iI (show (lF i9 + 1) = (if lF k < lF i9 + 1 then lF i9 + 1 else lF k) from by rw [if_pos (by omega)])) ?_
      refine j_goto F (tgt := 41) dL_note_34 (by decide) ?_
      refine j_iast F (ws' := [(ga, iR g 64 gF)] ++ ([(wa, iR g 64 (nup wF k (if wF i9 = 0 then 1 else wF k)))] ++ ([(la, iR g 64 (nup lF k (if lF k < lF i9 + 1 then lF i9 + 1 else lF k)))] ++ ([(ba, iR g 64 bF)])))) 2 (n := 64) (f := lF) rfl k (rfl) (by omega) (by decide) rfl dL_note_41 ?_
      refine j_aload F dL_note_42 6 rfl ?_
      refine j_iload_n F dL_note_44 rfl 2 rfl ?_
      refine j_aload F dL_note_45 6 rfl ?_
      refine j_iload_n F dL_note_47 rfl 1 rfl ?_
      refine j_iald F 3 (n := 64) (f := bF) rfl i9 (rfl) (by omega) (by decide) dL_note_48 ?_
      refine j_iconst F dL_note_49 ?_
      refine j_iadd F dL_note_50 ?_
      refine j_aload F dL_note_51 6 rfl ?_
      refine j_iload_n F dL_note_53 rfl 2 rfl ?_
      refine j_iald F 3 (n := 64) (f := bF) rfl k (rfl) (by omega) (by decide) dL_note_54 ?_
      refine j_icmp_ge F (tgt := 67) dL_note_55 (by decide) ⟨(by unfold rg; omega), (by unfold rg; omega)⟩ (fun c55 => ?_) (fun c55 => ?_)
      · refine j_aload F dL_note_67 6 rfl ?_
        refine j_iload_n F dL_note_69 rfl 2 rfl ?_
        refine j_iald F 3 (n := 64) (f := bF) rfl k (rfl) (by omega) (by decide) dL_note_70 ?_
        refine J.top (congrArg iI (show bF k = (if bF i9 + 1 < bF k then bF i9 + 1 else bF k) from by rw [if_neg (by omega)])) ?_
        refine j_iast F (ws' := [(ga, iR g 64 gF)] ++ ([(wa, iR g 64 (nup wF k (if wF i9 = 0 then 1 else wF k)))] ++ ([(la, iR g 64 (nup lF k (if lF k < lF i9 + 1 then lF i9 + 1 else lF k)))] ++ ([(ba, iR g 64 (nup bF k (if bF i9 + 1 < bF k then bF i9 + 1 else bF k)))])))) 3 (n := 64) (f := bF) rfl k (rfl) (by omega) (by decide) rfl dL_note_71 ?_
        refine j_lload_n F dL_note_72 rfl 0 rfl ?_
        refine j_lconst F dL_note_73 ?_
        refine j_aload F dL_note_74 3 rfl ?_
        refine j_iload_n F dL_note_76 rfl 1 rfl ?_
        refine j_iald F 0 (n := 64) (f := gF) rfl i9 (rfl) (by omega) (by decide) dL_note_77 ?_
        refine J.top (congrArg iI (show gF i9 = (gv : Int) from hgv)) ?_
        refine j_lshl F rfl dL_note_78 ?_
        refine J.topL (show (1 <<< ((iI (gv : Int)).toInt64 &&& 63)) = (lN (2 ^ gv)) from lb_one _ (by omega)) ?_
        refine j_lor F dL_note_79 ?_
        refine J.topL (show ((lN B) ||| (lN (2 ^ gv))) = (lN (B ||| 2 ^ gv)) from lb_or _ _) ?_
        exact ret _ () 0 0 _ _ dL_note_80 (by decide) (by decide) rfl
      · refine j_aload F dL_note_58 6 rfl ?_
        refine j_iload_n F dL_note_60 rfl 1 rfl ?_
        refine j_iald F 3 (n := 64) (f := bF) rfl i9 (rfl) (by omega) (by decide) dL_note_61 ?_
        refine j_iconst F dL_note_62 ?_
        refine j_iadd F dL_note_63 ?_
        refine J.top (congrArg iI (show (bF i9 + 1) = (if bF i9 + 1 < bF k then bF i9 + 1 else bF k) from by rw [if_pos (by omega)])) ?_
        refine j_goto F (tgt := 71) dL_note_64 (by decide) ?_
        refine j_iast F (ws' := [(ga, iR g 64 gF)] ++ ([(wa, iR g 64 (nup wF k (if wF i9 = 0 then 1 else wF k)))] ++ ([(la, iR g 64 (nup lF k (if lF k < lF i9 + 1 then lF i9 + 1 else lF k)))] ++ ([(ba, iR g 64 (nup bF k (if bF i9 + 1 < bF k then bF i9 + 1 else bF k)))])))) 3 (n := 64) (f := bF) rfl k (rfl) (by omega) (by decide) rfl dL_note_71 ?_
        refine j_lload_n F dL_note_72 rfl 0 rfl ?_
        refine j_lconst F dL_note_73 ?_
        refine j_aload F dL_note_74 3 rfl ?_
        refine j_iload_n F dL_note_76 rfl 1 rfl ?_
        refine j_iald F 0 (n := 64) (f := gF) rfl i9 (rfl) (by omega) (by decide) dL_note_77 ?_
        refine J.top (congrArg iI (show gF i9 = (gv : Int) from hgv)) ?_
        refine j_lshl F rfl dL_note_78 ?_
        refine J.topL (show (1 <<< ((iI (gv : Int)).toInt64 &&& 63)) = (lN (2 ^ gv)) from lb_one _ (by omega)) ?_
        refine j_lor F dL_note_79 ?_
        refine J.topL (show ((lN B) ||| (lN (2 ^ gv))) = (lN (B ||| 2 ^ gv)) from lb_or _ _) ?_
        exact ret _ () 0 0 _ _ dL_note_80 (by decide) (by decide) rfl

set_option maxHeartbeats 4000000 in
set_option maxRecDepth 100000 in
theorem c_L_learn {l : Launch} (hfl : l.flags = flags0) (D : va_G) (g : GT) (z : ZT) (qa ta ga wa la ba : Nat) (qF tF gF0 wF0 lF0 bF0 : NF) (G S M : Nat) (hq0 : qF 0 = (G : Int)) (hq1 : qF 1 = (S : Int)) (hq2 : qF 2 = (M : Int)) (hG : 1 ≤ G ∧ G ≤ 5) (hS : S ≤ 1) (hM : M ≤ 1) (hT : posW tF) : CV l yL_learn wsL_learn 3 74 6 D g z [.ref qa, .ref ta, .ref ga, .ref wa, .ref la, .ref ba] ([(qa, iR g 8 qF)] ++ ([(ta, iR g 64 tF)] ++ ([(ga, iR g 64 gF0)] ++ ([(wa, iR g 64 wF0)] ++ ([(la, iR g 64 lF0)] ++ ([(ba, iR g 64 bF0)])))))) (fun (u9 : NF × NF × NF × NF) => tabL G S M u9.1 u9.2.1 u9.2.2.1 u9.2.2.2) (fun (u9 : NF × NF × NF × NF) => [(qa, iR g 8 qF)] ++ ([(ta, iR g 64 tF)] ++ ([(ga, iR g 64 u9.1)] ++ ([(wa, iR g 64 u9.2.1)] ++ ([(la, iR g 64 u9.2.2.1)] ++ ([(ba, iR g 64 u9.2.2.2)])))))) 1 8 := by
  refine CV_of hfl (own := RL) ⟨2, 1, 8, 43⟩ 3 74 6 (by decide +kernel) rfl rfl ⟨by decide, by decide, by decide +kernel⟩ ⟨by decide, by decide⟩ (le_ble rfl) ?_
  intro p e s m below meth c A Q F hin ret
  change J p l e _ s m _ below meth c A D _ Q 0 0 ([(qa, iR g 8 qF)] ++ ([(ta, iR g 64 tF)] ++ ([(ga, iR g 64 gF0)] ++ ([(wa, iR g 64 wF0)] ++ ([(la, iR g 64 lF0)] ++ ([(ba, iR g 64 bF0)])))))) [(0, .ref qa), (1, .ref ta), (2, .ref ga), (3, .ref wa), (4, .ref la), (5, .ref ba)] [] 0
  refine j_bipush F dL_learn_0 (by decide) ?_
  refine j_newa_i F (ws' := fun q2 => [(qa, iR g 8 qF)] ++ ([(ta, iR g 64 tF)] ++ ([(ga, iR g 64 gF0)] ++ ([(wa, iR g 64 wF0)] ++ ([(la, iR g 64 lF0)] ++ ([(ba, iR g 64 bF0)] ++ ([(q2, iR g 8 (fun _ => 0))]))))))) 8 rfl (by decide) (List.mem_cons_of_mem _ (List.mem_of_getElem? (i := 0) rfl)) (by decide) (by decide) dL_learn_2 (fun _ => rfl) (fun q2 => ?_)
  refine j_astore F (lv' := [(6, .ref q2), (0, .ref qa), (1, .ref ta), (2, .ref ga), (3, .ref wa), (4, .ref la), (5, .ref ba)]) dL_learn_4 (by decide) rfl ?_
  refine j_iconst F dL_learn_6 ?_
  refine j_istore F (lv' := [(7, .int (iI 0)), (6, .ref q2), (0, .ref qa), (1, .ref ta), (2, .ref ga), (3, .ref wa), (4, .ref la), (5, .ref ba)]) dL_learn_7 (by decide) rfl ?_
  refine J.loc [0, 1, 2, 3, 4, 5, 6, 7] rfl ?_
  refine J.wsEq (ws2 := [(qa, iR g 8 qF)] ++ ([(ta, iR g 64 tF)] ++ ([(ga, iR g 64 gF0)] ++ ([(wa, iR g 64 wF0)] ++ ([(la, iR g 64 lF0)] ++ ([(ba, iR g 64 bF0)] ++ ([(q2, iR g 8 (cI 0))]))))))) (by rw [cI_0]) ?_
  refine J_loop (σ := Nat × Nat × NF × NF × NF × NF) (fun x9 : Nat × Nat × NF × NF × NF × NF => match x9 with | (k, k0, gF, wF, lF, bF) => k ≤ 45 ∧ ∀ i, i < k → tabAt gF lF bF wF i (vC G S M (posL.getD i 0))) (fun x9 : Nat × Nat × NF × NF × NF × NF => match x9 with | (k, k0, gF, wF, lF, bF) => 45 - k) (fun x9 : Nat × Nat × NF × NF × NF × NF => match x9 with | (k, k0, gF, wF, lF, bF) => [(qa, iR g 8 qF)] ++ ([(ta, iR g 64 tF)] ++ ([(ga, iR g 64 gF)] ++ ([(wa, iR g 64 wF)] ++ ([(la, iR g 64 lF)] ++ ([(ba, iR g 64 bF)] ++ ([(q2, iR g 8 (cI k0))]))))))) (fun x9 : Nat × Nat × NF × NF × NF × NF => match x9 with | (k, k0, gF, wF, lF, bF) => [(7, .int (iI (k : Int))), (6, .ref q2), (0, .ref qa), (1, .ref ta), (2, .ref ga), (3, .ref wa), (4, .ref la), (5, .ref ba)]) (0, 0, gF0, wF0, lF0, bF0) (by show 0 ≤ 45 ∧ ∀ i, i < 0 → tabAt gF0 lF0 bF0 wF0 i (vC G S M (posL.getD i 0)); exact ⟨Nat.zero_le _, fun i hi => absurd hi (Nat.not_lt_zero i)⟩) ?_
  rintro ⟨k, k0, gF, wF, lF, bF⟩ hI ih9
  have hI : k ≤ 45 ∧ ∀ i, i < k → tabAt gF lF bF wF i (vC G S M (posL.getD i 0)) := hI
  obtain ⟨hk, htab⟩ := hI
  refine j_iload F dL_learn_9 0 rfl ?_
  refine j_aload_n F dL_learn_11 rfl 3 rfl ?_
  refine j_bipush F dL_learn_12 (by decide) ?_
  refine j_iald F 1 (n := 64) (f := tF) rfl 63 (by decide) (by decide) (by decide) dL_learn_14 ?_
  refine J.top (congrArg iI (show tF 63 = 45 from hT.2)) ?_
  refine j_icmp_ge F (tgt := 418) dL_learn_15 (by decide) ⟨(by unfold rg; omega), (by unfold rg; omega)⟩ (fun c15 => ?_) (fun c15 => ?_)
  · refine J.perm (ws' := [(qa, iR g 8 qF)] ++ ([(ta, iR g 64 tF)] ++ ([(ga, iR g 64 gF)] ++ ([(wa, iR g 64 wF)] ++ ([(la, iR g 64 lF)] ++ ([(ba, iR g 64 bF)])))))) [0, 1, 2, 3, 4, 5] rfl rfl ?_
    exact ret (gF, wF, lF, bF) 1 8 _ _ dL_learn_418 (by decide) (by decide) (fun i hi => htab i (by omega))
  · have hk45 : k < 45 := by omega
    have hpl := posL_lt k hk45
    have hp0 := posL_0 k hk45
    refine j_aload_n F dL_learn_18 rfl 3 rfl ?_
    refine j_iload F dL_learn_19 0 rfl ?_
    refine j_iald F 1 (n := 64) (f := tF) rfl k (rfl) (by omega) (by decide) dL_learn_21 ?_
    refine J.top (congrArg iI (show tF k = (((posL.getD k 0) : Nat) : Int) from hT.1 k hk45)) ?_
    refine j_aload F dL_learn_22 1 rfl ?_
    refine J.permL (ws2 := [(q2, iR g 8 (cI k0))] ++ ([(qa, iR g 8 qF)] ++ ([(ta, iR g 64 tF)] ++ ([(ga, iR g 64 gF)] ++ ([(wa, iR g 64 wF)] ++ ([(la, iR g 64 lF)] ++ ([(ba, iR g 64 bF)]))))))) (pm_c (pm_s (pm_s (pm_s (pm_s (pm_s pm_e))))) (pm_c pm_0 (pm_c pm_0 (pm_c pm_0 (pm_c pm_0 (pm_c pm_0 (List.Perm.refl _))))))) ?_
    refine j_callSx_V F (As := [.int (iI (((posL.getD k 0) : Nat) : Int)), .ref q2]) (wr := [(qa, iR g 8 qF)] ++ ([(ta, iR g 64 tF)] ++ ([(ga, iR g 64 gF)] ++ ([(wa, iR g 64 wF)] ++ ([(la, iR g 64 lF)] ++ ([(ba, iR g 64 bF)])))))) (st := []) (c_L_decode hfl D g z q2 (posL.getD k 0) (cI k0) (by omega)) (idx := 16) gL_learn_L_decode rfl  (by decide) (by decide) (le_ble rfl) ⟨by decide, by decide⟩ dL_learn_24 ?_
    rintro u9 h9
    refine J.wsEq (ws2 := [(q2, iR g 8 (decP (posL.getD k 0) (cI k0) 8))] ++ ([(qa, iR g 8 qF)] ++ ([(ta, iR g 64 tF)] ++ ([(ga, iR g 64 gF)] ++ ([(wa, iR g 64 wF)] ++ ([(la, iR g 64 lF)] ++ ([(ba, iR g 64 bF)]))))))) (by first | rfl | simp only [List.append_assoc, List.append_nil, List.nil_append]) ?_
    refine J.permL (ws2 := [(qa, iR g 8 qF)] ++ ([(ta, iR g 64 tF)] ++ ([(ga, iR g 64 gF)] ++ ([(wa, iR g 64 wF)] ++ ([(la, iR g 64 lF)] ++ ([(ba, iR g 64 bF)] ++ ([(q2, iR g 8 (decP (posL.getD k 0) (cI k0) 8))]))))))) (pm_c (pm_s pm_0) (pm_c (pm_s pm_0) (pm_c (pm_s pm_0) (pm_c (pm_s pm_0) (pm_c (pm_s pm_0) (pm_c pm_e (List.Perm.refl _))))))) ?_
    refine J.wsEq (ws2 := [(qa, iR g 8 qF)] ++ ([(ta, iR g 64 tF)] ++ ([(ga, iR g 64 gF)] ++ ([(wa, iR g 64 wF)] ++ ([(la, iR g 64 lF)] ++ ([(ba, iR g 64 bF)] ++ ([(q2, iR g 8 (cI (posL.getD k 0)))]))))))) (by first | (rw [cI_dec]) | (dsimp only; rw [cI_dec])) ?_
    refine j_lconst F dL_learn_27 ?_
    refine J.topL (show 0 = (lN 0) from rfl) ?_
    refine j_lstore F (lv' := [(8, .long (lN 0)), (7, .int (iI (k : Int))), (6, .ref q2), (0, .ref qa), (1, .ref ta), (2, .ref ga), (3, .ref wa), (4, .ref la), (5, .ref ba)]) dL_learn_28 (by decide) rfl ?_
    refine J_at (σ := Unit) (fun _ : Unit => True) (fun _ : Unit => [(qa, iR g 8 qF)] ++ ([(ta, iR g 64 tF)] ++ ([(ga, iR g 64 gF)] ++ ([(wa, iR g 64 (nup wF k (if k = 0 then (1 : Int) else 0)))] ++ ([(la, iR g 64 lF)] ++ ([(ba, iR g 64 bF)] ++ ([(q2, iR g 8 (cI (posL.getD k 0)))]))))))) (fun _ : Unit => [(8, .long (lN 0)), (7, .int (iI (k : Int))), (6, .ref q2), (0, .ref qa), (1, .ref ta), (2, .ref ga), (3, .ref wa), (4, .ref la), (5, .ref ba)]) (fun _ : Unit => []) 46 ?_ ?_
    · rintro _ hI
      have hI : True := hI
      change J p l e _ s m _ below meth c A D _ Q 1 8 ([(qa, iR g 8 qF)] ++ ([(ta, iR g 64 tF)] ++ ([(ga, iR g 64 gF)] ++ ([(wa, iR g 64 (nup wF k (if k = 0 then (1 : Int) else 0)))] ++ ([(la, iR g 64 lF)] ++ ([(ba, iR g 64 bF)] ++ ([(q2, iR g 8 (cI (posL.getD k 0)))]))))))) [(8, .long (lN 0)), (7, .int (iI (k : Int))), (6, .ref q2), (0, .ref qa), (1, .ref ta), (2, .ref ga), (3, .ref wa), (4, .ref la), (5, .ref ba)] [] 46
      refine j_aload F dL_learn_46 7 rfl ?_
      refine j_iload F dL_learn_48 1 rfl ?_
      refine j_iconst F dL_learn_50 ?_
      refine j_iast F (ws' := [(qa, iR g 8 qF)] ++ ([(ta, iR g 64 tF)] ++ ([(ga, iR g 64 gF)] ++ ([(wa, iR g 64 (nup wF k (if k = 0 then (1 : Int) else 0)))] ++ ([(la, iR g 64 (nup lF k 0))] ++ ([(ba, iR g 64 bF)] ++ ([(q2, iR g 8 (cI (posL.getD k 0)))]))))))) 4 (n := 64) (f := lF) rfl k (rfl) (by omega) (by decide) rfl dL_learn_51 ?_
      refine J_at (σ := Unit) (fun _ : Unit => True) (fun _ : Unit => [(qa, iR g 8 qF)] ++ ([(ta, iR g 64 tF)] ++ ([(ga, iR g 64 gF)] ++ ([(wa, iR g 64 (nup wF k (if k = 0 then (1 : Int) else 0)))] ++ ([(la, iR g 64 (nup lF k 0))] ++ ([(ba, iR g 64 (nup bF k (if k = 0 then (0 : Int) else 99)))] ++ ([(q2, iR g 8 (cI (posL.getD k 0)))]))))))) (fun _ : Unit => [(8, .long (lN 0)), (7, .int (iI (k : Int))), (6, .ref q2), (0, .ref qa), (1, .ref ta), (2, .ref ga), (3, .ref wa), (4, .ref la), (5, .ref ba)]) (fun _ : Unit => []) 70 ?_ ?_
      · rintro _ hI
        have hI : True := hI
        change J p l e _ s m _ below meth c A D _ Q 1 8 ([(qa, iR g 8 qF)] ++ ([(ta, iR g 64 tF)] ++ ([(ga, iR g 64 gF)] ++ ([(wa, iR g 64 (nup wF k (if k = 0 then (1 : Int) else 0)))] ++ ([(la, iR g 64 (nup lF k 0))] ++ ([(ba, iR g 64 (nup bF k (if k = 0 then (0 : Int) else 99)))] ++ ([(q2, iR g 8 (cI (posL.getD k 0)))]))))))) [(8, .long (lN 0)), (7, .int (iI (k : Int))), (6, .ref q2), (0, .ref qa), (1, .ref ta), (2, .ref ga), (3, .ref wa), (4, .ref la), (5, .ref ba)] [] 70
        refine j_iconst F dL_learn_70 ?_
        refine j_istore F (lv' := [(10, .int (iI 1)), (8, .long (lN 0)), (7, .int (iI (k : Int))), (6, .ref q2), (0, .ref qa), (1, .ref ta), (2, .ref ga), (3, .ref wa), (4, .ref la), (5, .ref ba)]) dL_learn_71 (by decide) rfl ?_
        refine J.loc [0, 1, 2, 3, 4, 5, 6, 7, 8, 9] rfl ?_
        refine J_loop (σ := Nat × Nat × Int × Int × Int) (fun x9 : Nat × Nat × Int × Int × Int => match x9 with | (a, B, wk, lk, bk) => (1 ≤ a ∧ a ≤ 8) ∧ lnI G S M k (nxA G S M (posL.getD k 0) (a - 1)) B wk lk bk) (fun x9 : Nat × Nat × Int × Int × Int => match x9 with | (a, B, wk, lk, bk) => 8 - a) (fun x9 : Nat × Nat × Int × Int × Int => match x9 with | (a, B, wk, lk, bk) => [(qa, iR g 8 qF)] ++ ([(ta, iR g 64 tF)] ++ ([(ga, iR g 64 gF)] ++ ([(wa, iR g 64 (nup wF k wk))] ++ ([(la, iR g 64 (nup lF k lk))] ++ ([(ba, iR g 64 (nup bF k bk))] ++ ([(q2, iR g 8 (cI (posL.getD k 0)))]))))))) (fun x9 : Nat × Nat × Int × Int × Int => match x9 with | (a, B, wk, lk, bk) => [(10, .int (iI (a : Int))), (8, .long (lN B)), (7, .int (iI (k : Int))), (6, .ref q2), (0, .ref qa), (1, .ref ta), (2, .ref ga), (3, .ref wa), (4, .ref la), (5, .ref ba)]) (1, 0, (if k = 0 then (1 : Int) else 0), 0, (if k = 0 then (0 : Int) else 99)) (by show (1 ≤ 1 ∧ 1 ≤ 8) ∧ lnI G S M k (nxA G S M (posL.getD k 0) (1 - 1)) 0 (if k = 0 then (1 : Int) else 0) 0 (if k = 0 then (0 : Int) else 99); exact ⟨by omega, lnI_0 G S M k⟩) ?_
        rintro ⟨a, B, wk, lk, bk⟩ hI ih73
        have hI : (1 ≤ a ∧ a ≤ 8) ∧ lnI G S M k (nxA G S M (posL.getD k 0) (a - 1)) B wk lk bk := hI
        obtain ⟨⟨a1, a2⟩, hln⟩ := hI
        refine j_iload F dL_learn_73 0 rfl ?_
        refine j_bipush F dL_learn_75 (by decide) ?_
        refine j_icmp_ge F (tgt := 382) dL_learn_77 (by decide) ⟨(by unfold rg; omega), (by unfold rg; omega)⟩ (fun c77 => ?_) (fun c77 => ?_)
        · have ea : a - 1 = 7 := by omega
          rw [ea] at hln
          refine j_aload_n F dL_learn_382 rfl 6 rfl ?_
          refine j_iload F dL_learn_383 2 rfl ?_
          refine j_iconst F dL_learn_385 ?_
          refine j_iast F (ws' := [(qa, iR g 8 qF)] ++ ([(ta, iR g 64 tF)] ++ ([(ga, iR g 64 (nup gF k 0))] ++ ([(wa, iR g 64 (nup wF k wk))] ++ ([(la, iR g 64 (nup lF k lk))] ++ ([(ba, iR g 64 (nup bF k bk))] ++ ([(q2, iR g 8 (cI (posL.getD k 0)))]))))))) 2 (n := 64) (f := gF) rfl k (rfl) (by omega) (by decide) rfl dL_learn_386 ?_
          refine J.loc [1, 2, 3, 4, 5, 6, 7, 8, 9] rfl ?_
          refine J_loop (σ := Nat) (fun j : Nat => j ≤ 24 ∧ mexF (lnB G S M k (nxA G S M (posL.getD k 0) 7)) (63 - j) j = mexF (lnB G S M k (nxA G S M (posL.getD k 0) 7)) 63 0) (fun j : Nat => 24 - j) (fun j : Nat => [(qa, iR g 8 qF)] ++ ([(ta, iR g 64 tF)] ++ ([(ga, iR g 64 (nup gF k (j : Int)))] ++ ([(wa, iR g 64 (nup wF k wk))] ++ ([(la, iR g 64 (nup lF k lk))] ++ ([(ba, iR g 64 (nup bF k bk))] ++ ([(q2, iR g 8 (cI (posL.getD k 0)))]))))))) (fun j : Nat => [(8, .long (lN B)), (7, .int (iI (k : Int))), (6, .ref q2), (0, .ref qa), (1, .ref ta), (2, .ref ga), (3, .ref wa), (4, .ref la), (5, .ref ba)]) (0) (by show 0 ≤ 24 ∧ mexF (lnB G S M k (nxA G S M (posL.getD k 0) 7)) (63 - 0) 0 = mexF (lnB G S M k (nxA G S M (posL.getD k 0) 7)) 63 0; exact ⟨by omega, rfl⟩) ?_
          rintro j hI ih387
          have hI : j ≤ 24 ∧ mexF (lnB G S M k (nxA G S M (posL.getD k 0) 7)) (63 - j) j = mexF (lnB G S M k (nxA G S M (posL.getD k 0) 7)) 63 0 := hI
          obtain ⟨j1, j2⟩ := hI
          refine j_lload F dL_learn_387 0 rfl ?_
          refine j_aload_n F dL_learn_389 rfl 5 rfl ?_
          refine j_iload F dL_learn_390 1 rfl ?_
          refine j_iald F 2 (n := 64) (f := (nup gF k (j : Int))) rfl k (rfl) (by omega) (by decide) dL_learn_392 ?_
          refine J.top (congrArg iI (show (nup gF k (j : Int)) k = (j : Int) from nup_s _ _ _)) ?_
          refine j_lshr F rfl dL_learn_393 ?_
          refine j_lconst F dL_learn_394 ?_
          refine j_land F dL_learn_395 ?_
          refine j_lconst F dL_learn_396 ?_
          refine j_lcmp F dL_learn_397 ?_
          refine j_ifl_ne F (tgt := 412) dL_learn_398 (by decide) (fun c398 => ?_) (fun c398 => ?_)
          · have hj9 := mex_end j2 (Or.inr (fun w9 => c398 ((lb_bit (by omega)).mpr (((lnI_t hln).2 j).mpr w9)))) (by omega)
            obtain ⟨x0, x1, x2, x3⟩ := lnI_e hG hS hM hk45 hln
            refine j_iinc F (lv' := [(7, .int (iI ((k : Int) + 1))), (8, .long (lN B)), (6, .ref q2), (0, .ref qa), (1, .ref ta), (2, .ref ga), (3, .ref wa), (4, .ref la), (5, .ref ba)]) dL_learn_412 1 rfl (by decide) rfl ?_
            refine j_goto F (tgt := 9) dL_learn_415 (by decide) ?_
            refine J.loc [0, 2, 3, 4, 5, 6, 7, 8] rfl ?_
            exact ih9 ((k + 1), (posL.getD k 0), (nup gF k (j : Int)), (nup wF k wk), (nup lF k lk), (nup bF k bk)) (by show (k + 1) ≤ 45 ∧ ∀ i, i < (k + 1) → tabAt (nup gF k (j : Int)) (nup lF k lk) (nup bF k bk) (nup wF k wk) i (vC G S M (posL.getD i 0)); exact ⟨by omega, tab_up htab (by rw [hj9, x0]) x1 x2 x3⟩) (by show 45 - (k + 1) < 45 - k; omega)
          · have hbit : B.testBit j = true := (lb_bit (by omega)).mp c398
            have hb24 := lnI_24 hln hbit
            refine j_aload_n F dL_learn_401 rfl 5 rfl ?_
            refine j_iload F dL_learn_402 1 rfl ?_
            refine j_dup2 F dL_learn_404 rfl rfl ?_
            refine j_iald F 2 (n := 64) (f := (nup gF k (j : Int))) rfl k (rfl) (by omega) (by decide) dL_learn_405 ?_
            refine J.top (congrArg iI (show (nup gF k (j : Int)) k = (j : Int) from nup_s _ _ _)) ?_
            refine j_iconst F dL_learn_406 ?_
            refine j_iadd F dL_learn_407 ?_
            refine j_iast F (ws' := [(qa, iR g 8 qF)] ++ ([(ta, iR g 64 tF)] ++ ([(ga, iR g 64 (nup (nup gF k (j : Int)) k ((j : Int) + 1)))] ++ ([(wa, iR g 64 (nup wF k wk))] ++ ([(la, iR g 64 (nup lF k lk))] ++ ([(ba, iR g 64 (nup bF k bk))] ++ ([(q2, iR g 8 (cI (posL.getD k 0)))]))))))) 2 (n := 64) (f := (nup gF k (j : Int))) rfl k (rfl) (by omega) (by decide) rfl dL_learn_408 ?_
            refine J.wsEq (ws2 := [(qa, iR g 8 qF)] ++ ([(ta, iR g 64 tF)] ++ ([(ga, iR g 64 (nup gF k ((j + 1 : Nat) : Int)))] ++ ([(wa, iR g 64 (nup wF k wk))] ++ ([(la, iR g 64 (nup lF k lk))] ++ ([(ba, iR g 64 (nup bF k bk))] ++ ([(q2, iR g 8 (cI (posL.getD k 0)))]))))))) (by first | (rw [nup2]; rfl) | (dsimp only; rw [nup2]; rfl)) ?_
            refine j_goto F (tgt := 387) dL_learn_409 (by decide) ?_
            refine J.loc [0, 1, 2, 3, 4, 5, 6, 7, 8] rfl ?_
            exact ih387 (j + 1) (by show (j + 1) ≤ 24 ∧ mexF (lnB G S M k (nxA G S M (posL.getD k 0) 7)) (63 - (j + 1)) (j + 1) = mexF (lnB G S M k (nxA G S M (posL.getD k 0) 7)) 63 0; exact ⟨by omega, mex_step (by omega) j2 (((lnI_t hln).2 j).mp hbit)⟩) (by show 24 - (j + 1) < 24 - j; omega)
        · refine j_aload F dL_learn_80 3 rfl ?_
          refine j_iload F dL_learn_82 0 rfl ?_
          refine j_iald F 6 (n := 8) (f := (cI (posL.getD k 0))) rfl a (rfl) (by omega) (by decide) dL_learn_84 ?_
          refine j_if_ne F (tgt := 91) dL_learn_85 (by decide) (by have h9 := cI_b (posL.getD k 0) a; unfold rg; omega) (fun c85 => ?_) (fun c85 => ?_)
          · refine j_aload F dL_learn_91 3 rfl ?_
            refine j_iload F dL_learn_93 0 rfl ?_
            refine j_dup2 F dL_learn_95 rfl rfl ?_
            refine j_iald F 6 (n := 8) (f := (cI (posL.getD k 0))) rfl a (rfl) (by omega) (by decide) dL_learn_96 ?_
            refine j_iconst F dL_learn_97 ?_
            refine j_isub F dL_learn_98 ?_
            refine j_iast F (ws' := [(qa, iR g 8 qF)] ++ ([(ta, iR g 64 tF)] ++ ([(ga, iR g 64 gF)] ++ ([(wa, iR g 64 (nup wF k wk))] ++ ([(la, iR g 64 (nup lF k lk))] ++ ([(ba, iR g 64 (nup bF k bk))] ++ ([(q2, iR g 8 (nup (cI (posL.getD k 0)) a ((cI (posL.getD k 0)) a - 1)))]))))))) 6 (n := 8) (f := (cI (posL.getD k 0))) rfl a (rfl) (by omega) (by decide) rfl dL_learn_99 ?_
            refine J.wsEq (ws2 := [(qa, iR g 8 qF)] ++ ([(ta, iR g 64 tF)] ++ ([(ga, iR g 64 gF)] ++ ([(wa, iR g 64 (nup wF k wk))] ++ ([(la, iR g 64 (nup lF k lk))] ++ ([(ba, iR g 64 (nup bF k bk))] ++ ([(q2, iR g 8 (c1F (posL.getD k 0) a))]))))))) (rfl) ?_
            refine j_iconst F dL_learn_100 ?_
            refine J_at (σ := Nat × Int × Int × Int) (fun x9 : Nat × Int × Int × Int => match x9 with | (B, wk, lk, bk) => lnI G S M k (nxA G S M (posL.getD k 0) (a - 1) ++ ntk (posL.getD k 0) a (min G a)) B wk lk bk) (fun x9 : Nat × Int × Int × Int => match x9 with | (B, wk, lk, bk) => [(qa, iR g 8 qF)] ++ ([(ta, iR g 64 tF)] ++ ([(ga, iR g 64 gF)] ++ ([(wa, iR g 64 (nup wF k wk))] ++ ([(la, iR g 64 (nup lF k lk))] ++ ([(ba, iR g 64 (nup bF k bk))] ++ ([(q2, iR g 8 (c1F (posL.getD k 0) a))]))))))) (fun x9 : Nat × Int × Int × Int => match x9 with | (B, wk, lk, bk) => [(10, .int (iI (a : Int))), (8, .long (lN B)), (7, .int (iI (k : Int))), (6, .ref q2), (0, .ref qa), (1, .ref ta), (2, .ref ga), (3, .ref wa), (4, .ref la), (5, .ref ba)]) (fun x9 : Nat × Int × Int × Int => match x9 with | (B, wk, lk, bk) => []) 172 ?_ ?_
            · rintro ⟨B, wk, lk, bk⟩ hI
              have hI : lnI G S M k (nxA G S M (posL.getD k 0) (a - 1) ++ ntk (posL.getD k 0) a (min G a)) B wk lk bk := hI
              have hln := hI
              change J p l e _ s m _ below meth c A D _ Q 1 8 ([(qa, iR g 8 qF)] ++ ([(ta, iR g 64 tF)] ++ ([(ga, iR g 64 gF)] ++ ([(wa, iR g 64 (nup wF k wk))] ++ ([(la, iR g 64 (nup lF k lk))] ++ ([(ba, iR g 64 (nup bF k bk))] ++ ([(q2, iR g 8 (c1F (posL.getD k 0) a))]))))))) [(10, .int (iI (a : Int))), (8, .long (lN B)), (7, .int (iI (k : Int))), (6, .ref q2), (0, .ref qa), (1, .ref ta), (2, .ref ga), (3, .ref wa), (4, .ref la), (5, .ref ba)] [] 172
              refine j_iconst F dL_learn_172 ?_
              refine J_at (σ := Nat × Int × Int × Int) (fun x9 : Nat × Int × Int × Int => match x9 with | (B, wk, lk, bk) => lnI G S M k (nxA G S M (posL.getD k 0) (a - 1) ++ (ntk (posL.getD k 0) a (min G a) ++ (if S = 1 then nsp (posL.getD k 0) a (a / 2) else []))) B wk lk bk) (fun x9 : Nat × Int × Int × Int => match x9 with | (B, wk, lk, bk) => [(qa, iR g 8 qF)] ++ ([(ta, iR g 64 tF)] ++ ([(ga, iR g 64 gF)] ++ ([(wa, iR g 64 (nup wF k wk))] ++ ([(la, iR g 64 (nup lF k lk))] ++ ([(ba, iR g 64 (nup bF k bk))] ++ ([(q2, iR g 8 (c1F (posL.getD k 0) a))]))))))) (fun x9 : Nat × Int × Int × Int => match x9 with | (B, wk, lk, bk) => [(10, .int (iI (a : Int))), (8, .long (lN B)), (7, .int (iI (k : Int))), (6, .ref q2), (0, .ref qa), (1, .ref ta), (2, .ref ga), (3, .ref wa), (4, .ref la), (5, .ref ba)]) (fun x9 : Nat × Int × Int × Int => match x9 with | (B, wk, lk, bk) => []) 263 ?_ ?_
              · rintro ⟨B, wk, lk, bk⟩ hI
                have hI : lnI G S M k (nxA G S M (posL.getD k 0) (a - 1) ++ (ntk (posL.getD k 0) a (min G a) ++ (if S = 1 then nsp (posL.getD k 0) a (a / 2) else []))) B wk lk bk := hI
                have hln := hI
                change J p l e _ s m _ below meth c A D _ Q 1 8 ([(qa, iR g 8 qF)] ++ ([(ta, iR g 64 tF)] ++ ([(ga, iR g 64 gF)] ++ ([(wa, iR g 64 (nup wF k wk))] ++ ([(la, iR g 64 (nup lF k lk))] ++ ([(ba, iR g 64 (nup bF k bk))] ++ ([(q2, iR g 8 (c1F (posL.getD k 0) a))]))))))) [(10, .int (iI (a : Int))), (8, .long (lN B)), (7, .int (iI (k : Int))), (6, .ref q2), (0, .ref qa), (1, .ref ta), (2, .ref ga), (3, .ref wa), (4, .ref la), (5, .ref ba)] [] 263
                refine j_iconst F dL_learn_263 ?_
                refine J_at (σ := Nat × Int × Int × Int) (fun x9 : Nat × Int × Int × Int => match x9 with | (B, wk, lk, bk) => lnI G S M k (nxA G S M (posL.getD k 0) (a - 1) ++ (ntk (posL.getD k 0) a (min G a) ++ ((if S = 1 then nsp (posL.getD k 0) a (a / 2) else []) ++ (if M = 1 then nmg (posL.getD k 0) a 7 else [])))) B wk lk bk) (fun x9 : Nat × Int × Int × Int => match x9 with | (B, wk, lk, bk) => [(qa, iR g 8 qF)] ++ ([(ta, iR g 64 tF)] ++ ([(ga, iR g 64 gF)] ++ ([(wa, iR g 64 (nup wF k wk))] ++ ([(la, iR g 64 (nup lF k lk))] ++ ([(ba, iR g 64 (nup bF k bk))] ++ ([(q2, iR g 8 (c1F (posL.getD k 0) a))]))))))) (fun x9 : Nat × Int × Int × Int => match x9 with | (B, wk, lk, bk) => [(10, .int (iI (a : Int))), (8, .long (lN B)), (7, .int (iI (k : Int))), (6, .ref q2), (0, .ref qa), (1, .ref ta), (2, .ref ga), (3, .ref wa), (4, .ref la), (5, .ref ba)]) (fun x9 : Nat × Int × Int × Int => match x9 with | (B, wk, lk, bk) => []) 367 ?_ ?_
                · rintro ⟨B, wk, lk, bk⟩ hI
                  have hI : lnI G S M k (nxA G S M (posL.getD k 0) (a - 1) ++ (ntk (posL.getD k 0) a (min G a) ++ ((if S = 1 then nsp (posL.getD k 0) a (a / 2) else []) ++ (if M = 1 then nmg (posL.getD k 0) a 7 else [])))) B wk lk bk := hI
                  have hln := hI
                  change J p l e _ s m _ below meth c A D _ Q 1 8 ([(qa, iR g 8 qF)] ++ ([(ta, iR g 64 tF)] ++ ([(ga, iR g 64 gF)] ++ ([(wa, iR g 64 (nup wF k wk))] ++ ([(la, iR g 64 (nup lF k lk))] ++ ([(ba, iR g 64 (nup bF k bk))] ++ ([(q2, iR g 8 (c1F (posL.getD k 0) a))]))))))) [(10, .int (iI (a : Int))), (8, .long (lN B)), (7, .int (iI (k : Int))), (6, .ref q2), (0, .ref qa), (1, .ref ta), (2, .ref ga), (3, .ref wa), (4, .ref la), (5, .ref ba)] [] 367
                  refine j_aload F dL_learn_367 3 rfl ?_
                  refine j_iload F dL_learn_369 0 rfl ?_
                  refine j_dup2 F dL_learn_371 rfl rfl ?_
                  refine j_iald F 6 (n := 8) (f := (c1F (posL.getD k 0) a)) rfl a (rfl) (by omega) (by decide) dL_learn_372 ?_
                  refine j_iconst F dL_learn_373 ?_
                  refine j_iadd F dL_learn_374 ?_
                  refine j_iast F (ws' := [(qa, iR g 8 qF)] ++ ([(ta, iR g 64 tF)] ++ ([(ga, iR g 64 gF)] ++ ([(wa, iR g 64 (nup wF k wk))] ++ ([(la, iR g 64 (nup lF k lk))] ++ ([(ba, iR g 64 (nup bF k bk))] ++ ([(q2, iR g 8 (nup (c1F (posL.getD k 0) a) a ((c1F (posL.getD k 0) a) a + 1)))]))))))) 6 (n := 8) (f := (c1F (posL.getD k 0) a)) rfl a (rfl) (by omega) (by decide) rfl dL_learn_375 ?_
                  refine J.wsEq (ws2 := [(qa, iR g 8 qF)] ++ ([(ta, iR g 64 tF)] ++ ([(ga, iR g 64 gF)] ++ ([(wa, iR g 64 (nup wF k wk))] ++ ([(la, iR g 64 (nup lF k lk))] ++ ([(ba, iR g 64 (nup bF k bk))] ++ ([(q2, iR g 8 (cI (posL.getD k 0)))]))))))) (by first | (rw [c1_back]) | (dsimp only; rw [c1_back])) ?_
                  refine j_iinc F (lv' := [(10, .int (iI ((a : Int) + 1))), (8, .long (lN B)), (7, .int (iI (k : Int))), (6, .ref q2), (0, .ref qa), (1, .ref ta), (2, .ref ga), (3, .ref wa), (4, .ref la), (5, .ref ba)]) dL_learn_376 0 rfl (by decide) rfl ?_
                  refine j_goto F (tgt := 73) dL_learn_379 (by decide) ?_
                  refine J.loc [0, 1, 2, 3, 4, 5, 6, 7, 8, 9] rfl ?_
                  exact ih73 ((a + 1), B, wk, lk, bk) (by show (1 ≤ (a + 1) ∧ (a + 1) ≤ 8) ∧ lnI G S M k (nxA G S M (posL.getD k 0) ((a + 1) - 1)) B wk lk bk; first | exact ⟨by omega, by rw [nxA_s a1, if_pos c85, List.append_nil]; exact hln⟩ | exact ⟨by omega, by rw [nxA_s a1, if_neg c85]; exact hln⟩) (by show 8 - (a + 1) < 8 - a; omega)
                · intro hj367
                  refine j_istore F (lv' := [(11, .int (iI 1)), (10, .int (iI (a : Int))), (8, .long (lN B)), (7, .int (iI (k : Int))), (6, .ref q2), (0, .ref qa), (1, .ref ta), (2, .ref ga), (3, .ref wa), (4, .ref la), (5, .ref ba)]) dL_learn_264 (by decide) rfl ?_
                  refine J.loc [0, 1, 2, 3, 4, 5, 6, 7, 8, 9, 10] rfl ?_
                  refine J_loop (σ := Nat × Nat × Int × Int × Int) (fun x9 : Nat × Nat × Int × Int × Int => match x9 with | (d, B, wk, lk, bk) => ((1 ≤ d ∧ d ≤ 8) ∧ (d = 1 ∨ M = 1)) ∧ lnI G S M k (nxA G S M (posL.getD k 0) (a - 1) ++ (ntk (posL.getD k 0) a (min G a) ++ ((if S = 1 then nsp (posL.getD k 0) a (a / 2) else []) ++ nmg (posL.getD k 0) a (d - 1)))) B wk lk bk) (fun x9 : Nat × Nat × Int × Int × Int => match x9 with | (d, B, wk, lk, bk) => 8 - d) (fun x9 : Nat × Nat × Int × Int × Int => match x9 with | (d, B, wk, lk, bk) => [(qa, iR g 8 qF)] ++ ([(ta, iR g 64 tF)] ++ ([(ga, iR g 64 gF)] ++ ([(wa, iR g 64 (nup wF k wk))] ++ ([(la, iR g 64 (nup lF k lk))] ++ ([(ba, iR g 64 (nup bF k bk))] ++ ([(q2, iR g 8 (c1F (posL.getD k 0) a))]))))))) (fun x9 : Nat × Nat × Int × Int × Int => match x9 with | (d, B, wk, lk, bk) => [(11, .int (iI (d : Int))), (10, .int (iI (a : Int))), (8, .long (lN B)), (7, .int (iI (k : Int))), (6, .ref q2), (0, .ref qa), (1, .ref ta), (2, .ref ga), (3, .ref wa), (4, .ref la), (5, .ref ba)]) (1, B, wk, lk, bk) (by show ((1 ≤ 1 ∧ 1 ≤ 8) ∧ (1 = 1 ∨ M = 1)) ∧ lnI G S M k (nxA G S M (posL.getD k 0) (a - 1) ++ (ntk (posL.getD k 0) a (min G a) ++ ((if S = 1 then nsp (posL.getD k 0) a (a / 2) else []) ++ nmg (posL.getD k 0) a (1 - 1)))) B wk lk bk; exact ⟨by omega, by rw [show nmg (posL.getD k 0) a (1 - 1) = [] from rfl, List.append_nil]; exact hln⟩) ?_
                  rintro ⟨d, B, wk, lk, bk⟩ hI ih266
                  have hI : ((1 ≤ d ∧ d ≤ 8) ∧ (d = 1 ∨ M = 1)) ∧ lnI G S M k (nxA G S M (posL.getD k 0) (a - 1) ++ (ntk (posL.getD k 0) a (min G a) ++ ((if S = 1 then nsp (posL.getD k 0) a (a / 2) else []) ++ nmg (posL.getD k 0) a (d - 1)))) B wk lk bk := hI
                  obtain ⟨⟨⟨d1, d2⟩, d3⟩, hln⟩ := hI
                  refine j_aload_n F dL_learn_266 rfl 5 rfl ?_
                  refine j_iconst F dL_learn_267 ?_
                  refine j_iald F 0 (n := 8) (f := qF) rfl 2 (by decide) (by decide) (by decide) dL_learn_268 ?_
                  refine J.top (congrArg iI (show qF 2 = (M : Int) from hq2)) ?_
                  refine j_iconst F dL_learn_269 ?_
                  refine j_icmp_ne F (tgt := 367) dL_learn_270 (by decide) ⟨(by unfold rg; omega), (by unfold rg; omega)⟩ (fun c270 => ?_) (fun c270 => ?_)
                  · refine J.loc [1, 2, 3, 4, 5, 6, 7, 8, 9, 10] rfl ?_
                    exact hj367 (B, wk, lk, bk) (by show lnI G S M k (nxA G S M (posL.getD k 0) (a - 1) ++ (ntk (posL.getD k 0) a (min G a) ++ ((if S = 1 then nsp (posL.getD k 0) a (a / 2) else []) ++ (if M = 1 then nmg (posL.getD k 0) a 7 else [])))) B wk lk bk; first | (rw [if_neg (show ¬ M = 1 by omega)]; have e9 : d = 1 := (by omega); subst e9; exact hln) | (rw [if_pos (show M = 1 by omega)]; rw [show d - 1 = 7 by omega] at hln; exact hln))
                  · refine j_iload F dL_learn_273 0 rfl ?_
                    refine j_bipush F dL_learn_275 (by decide) ?_
                    refine j_icmp_ge F (tgt := 367) dL_learn_277 (by decide) ⟨(by unfold rg; omega), (by unfold rg; omega)⟩ (fun c277 => ?_) (fun c277 => ?_)
                    · refine J.loc [1, 2, 3, 4, 5, 6, 7, 8, 9, 10] rfl ?_
                      exact hj367 (B, wk, lk, bk) (by show lnI G S M k (nxA G S M (posL.getD k 0) (a - 1) ++ (ntk (posL.getD k 0) a (min G a) ++ ((if S = 1 then nsp (posL.getD k 0) a (a / 2) else []) ++ (if M = 1 then nmg (posL.getD k 0) a 7 else [])))) B wk lk bk; first | (rw [if_neg (show ¬ M = 1 by omega)]; have e9 : d = 1 := (by omega); subst e9; exact hln) | (rw [if_pos (show M = 1 by omega)]; rw [show d - 1 = 7 by omega] at hln; exact hln))
                    · refine j_aload F dL_learn_280 4 rfl ?_
                      refine j_iload F dL_learn_282 0 rfl ?_
                      refine j_iald F 6 (n := 8) (f := (c1F (posL.getD k 0) a)) rfl d (rfl) (by omega) (by decide) dL_learn_284 ?_
                      refine j_if_ne F (tgt := 291) dL_learn_285 (by decide) (by have h9 := c1F_b (posL.getD k 0) a d; unfold rg; omega) (fun c285 => ?_) (fun c285 => ?_)
                      · obtain ⟨⟨ok0, ok1⟩, ok2⟩ := mg_ok hk45 (show a < 8 by omega) c85 (show d < 8 by omega) c285
                        refine j_aload F dL_learn_291 4 rfl ?_
                        refine j_iload F dL_learn_293 0 rfl ?_
                        refine j_dup2 F dL_learn_295 rfl rfl ?_
                        refine j_iald F 6 (n := 8) (f := (c1F (posL.getD k 0) a)) rfl d (rfl) (by omega) (by decide) dL_learn_296 ?_
                        refine j_iconst F dL_learn_297 ?_
                        refine j_isub F dL_learn_298 ?_
                        refine j_iast F (ws' := [(qa, iR g 8 qF)] ++ ([(ta, iR g 64 tF)] ++ ([(ga, iR g 64 gF)] ++ ([(wa, iR g 64 (nup wF k wk))] ++ ([(la, iR g 64 (nup lF k lk))] ++ ([(ba, iR g 64 (nup bF k bk))] ++ ([(q2, iR g 8 (nup (c1F (posL.getD k 0) a) d ((c1F (posL.getD k 0) a) d - 1)))]))))))) 6 (n := 8) (f := (c1F (posL.getD k 0) a)) rfl d (rfl) (by omega) (by decide) rfl dL_learn_299 ?_
                        refine j_aload F dL_learn_300 4 rfl ?_
                        refine j_iload F dL_learn_302 1 rfl ?_
                        refine j_iload F dL_learn_304 0 rfl ?_
                        refine j_iadd F dL_learn_306 ?_
                        refine j_iconst F dL_learn_307 ?_
                        refine j_isub F dL_learn_308 ?_
                        refine j_dup2 F dL_learn_309 rfl rfl ?_
                        refine j_iald F 6 (n := 8) (f := (nup (c1F (posL.getD k 0) a) d ((c1F (posL.getD k 0) a) d - 1))) rfl (a + d - 1) (by omega) (by omega) (by decide) dL_learn_310 ?_
                        refine j_iconst F dL_learn_311 ?_
                        refine j_iadd F dL_learn_312 ?_
                        refine j_iast F (ws' := [(qa, iR g 8 qF)] ++ ([(ta, iR g 64 tF)] ++ ([(ga, iR g 64 gF)] ++ ([(wa, iR g 64 (nup wF k wk))] ++ ([(la, iR g 64 (nup lF k lk))] ++ ([(ba, iR g 64 (nup bF k bk))] ++ ([(q2, iR g 8 (nup (nup (c1F (posL.getD k 0) a) d ((c1F (posL.getD k 0) a) d - 1)) (a + d - 1) ((nup (c1F (posL.getD k 0) a) d ((c1F (posL.getD k 0) a) d - 1)) (a + d - 1) + 1)))]))))))) 6 (n := 8) (f := (nup (c1F (posL.getD k 0) a) d ((c1F (posL.getD k 0) a) d - 1))) rfl (a + d - 1) (by omega) (by omega) (by decide) rfl dL_learn_313 ?_
                        refine J.wsEq (ws2 := [(qa, iR g 8 qF)] ++ ([(ta, iR g 64 tF)] ++ ([(ga, iR g 64 gF)] ++ ([(wa, iR g 64 (nup wF k wk))] ++ ([(la, iR g 64 (nup lF k lk))] ++ ([(ba, iR g 64 (nup bF k bk))] ++ ([(q2, iR g 8 (mgF (posL.getD k 0) a d))]))))))) (rfl) ?_
                        refine j_lload F dL_learn_314 2 rfl ?_
                        refine j_aload F dL_learn_316 4 rfl ?_
                        obtain ⟨t1, t2, t3, t4⟩ := htab (mgN (posL.getD k 0) a d) ok1
                        obtain ⟨y1, y2, y3, y4⟩ := vC_b (G := G) (S := S) (M := M) (k := (mgN (posL.getD k 0) a d)) (by omega)
                        have hne : ¬ (mgN (posL.getD k 0) a d) = k := by omega
                        have hlb := lnI_b hln hk45
                        have eB := nup_n (k := k) wF wk hne
                        have eL := nup_n (k := k) lF lk hne
                        have eb := nup_n (k := k) bF bk hne
                        refine J.permL (ws2 := [(q2, iR g 8 (mgF (posL.getD k 0) a d))] ++ ([(qa, iR g 8 qF)] ++ ([(ta, iR g 64 tF)] ++ ([(ga, iR g 64 gF)] ++ ([(wa, iR g 64 (nup wF k wk))] ++ ([(la, iR g 64 (nup lF k lk))] ++ ([(ba, iR g 64 (nup bF k bk))]))))))) (pm_c (pm_s (pm_s (pm_s (pm_s (pm_s pm_e))))) (pm_c pm_0 (pm_c pm_0 (pm_c pm_0 (pm_c pm_0 (pm_c pm_0 (List.Perm.refl _))))))) ?_
                        refine j_callSx_I F (As := [.ref q2]) (wr := [(qa, iR g 8 qF)] ++ ([(ta, iR g 64 tF)] ++ ([(ga, iR g 64 gF)] ++ ([(wa, iR g 64 (nup wF k wk))] ++ ([(la, iR g 64 (nup lF k lk))] ++ ([(ba, iR g 64 (nup bF k bk))])))))) (st := [.long (lN B)]) (c_L_code hfl D g z q2 (mgF (posL.getD k 0) a d)) (idx := 20) gL_learn_L_code rfl  (by decide) (by decide) (le_ble rfl) ⟨by decide, by decide⟩ dL_learn_318 ?_
                        rintro r9 u9 rfl
                        rw [ok2]
                        refine J.wsEq (ws2 := [(q2, iR g 8 (mgF (posL.getD k 0) a d))] ++ ([(qa, iR g 8 qF)] ++ ([(ta, iR g 64 tF)] ++ ([(ga, iR g 64 gF)] ++ ([(wa, iR g 64 (nup wF k wk))] ++ ([(la, iR g 64 (nup lF k lk))] ++ ([(ba, iR g 64 (nup bF k bk))]))))))) (by first | rfl | simp only [List.append_assoc, List.append_nil, List.nil_append]) ?_
                        refine J.permL (ws2 := [(qa, iR g 8 qF)] ++ ([(ta, iR g 64 tF)] ++ ([(ga, iR g 64 gF)] ++ ([(wa, iR g 64 (nup wF k wk))] ++ ([(la, iR g 64 (nup lF k lk))] ++ ([(ba, iR g 64 (nup bF k bk))] ++ ([(q2, iR g 8 (mgF (posL.getD k 0) a d))]))))))) (pm_c (pm_s pm_0) (pm_c (pm_s pm_0) (pm_c (pm_s pm_0) (pm_c (pm_s pm_0) (pm_c (pm_s pm_0) (pm_c pm_e (List.Perm.refl _))))))) ?_
                        refine j_aload_n F dL_learn_321 rfl 6 rfl ?_
                        refine J.permL (ws2 := [(ta, iR g 64 tF)] ++ ([(qa, iR g 8 qF)] ++ ([(ga, iR g 64 gF)] ++ ([(wa, iR g 64 (nup wF k wk))] ++ ([(la, iR g 64 (nup lF k lk))] ++ ([(ba, iR g 64 (nup bF k bk))] ++ ([(q2, iR g 8 (mgF (posL.getD k 0) a d))]))))))) (pm_c (pm_s pm_0) (pm_c pm_0 (pm_c pm_0 (pm_c pm_0 (pm_c pm_0 (pm_c pm_0 (List.Perm.refl _))))))) ?_
                        refine j_callSx_I F (As := [.int (iI (((posL.getD (mgN (posL.getD k 0) a d) 0) : Nat) : Int)), .ref ta]) (wr := [(qa, iR g 8 qF)] ++ ([(ga, iR g 64 gF)] ++ ([(wa, iR g 64 (nup wF k wk))] ++ ([(la, iR g 64 (nup lF k lk))] ++ ([(ba, iR g 64 (nup bF k bk))] ++ ([(q2, iR g 8 (mgF (posL.getD k 0) a d))])))))) (st := [.long (lN B)]) (c_L_find hfl D g z ta tF (mgN (posL.getD k 0) a d) (by omega) hT) (idx := 24) gL_learn_L_find rfl  (by decide) (by decide) (le_ble rfl) ⟨by decide, by decide⟩ dL_learn_322 ?_
                        rintro r9 u9 rfl
                        refine J.wsEq (ws2 := [(ta, iR g 64 tF)] ++ ([(qa, iR g 8 qF)] ++ ([(ga, iR g 64 gF)] ++ ([(wa, iR g 64 (nup wF k wk))] ++ ([(la, iR g 64 (nup lF k lk))] ++ ([(ba, iR g 64 (nup bF k bk))] ++ ([(q2, iR g 8 (mgF (posL.getD k 0) a d))]))))))) (by first | rfl | simp only [List.append_assoc, List.append_nil, List.nil_append]) ?_
                        refine J.permL (ws2 := [(qa, iR g 8 qF)] ++ ([(ta, iR g 64 tF)] ++ ([(ga, iR g 64 gF)] ++ ([(wa, iR g 64 (nup wF k wk))] ++ ([(la, iR g 64 (nup lF k lk))] ++ ([(ba, iR g 64 (nup bF k bk))] ++ ([(q2, iR g 8 (mgF (posL.getD k 0) a d))]))))))) (pm_c (pm_s pm_0) (pm_c pm_0 (pm_c pm_0 (pm_c pm_0 (pm_c pm_0 (pm_c pm_0 (List.Perm.refl _))))))) ?_
                        refine j_iload F dL_learn_325 3 rfl ?_
                        refine j_aload_n F dL_learn_327 rfl 7 rfl ?_
                        refine j_aload_n F dL_learn_328 rfl 8 rfl ?_
                        refine j_aload F dL_learn_329 9 rfl ?_
                        refine j_aload F dL_learn_331 10 rfl ?_
                        refine J.permL (ws2 := [(ga, iR g 64 gF)] ++ ([(wa, iR g 64 (nup wF k wk))] ++ ([(la, iR g 64 (nup lF k lk))] ++ ([(ba, iR g 64 (nup bF k bk))] ++ ([(qa, iR g 8 qF)] ++ ([(ta, iR g 64 tF)] ++ ([(q2, iR g 8 (mgF (posL.getD k 0) a d))]))))))) (pm_c (pm_s (pm_s pm_0)) (pm_c (pm_s (pm_s pm_0)) (pm_c (pm_s (pm_s pm_0)) (pm_c (pm_s (pm_s pm_0)) (pm_c pm_0 (pm_c pm_0 (List.Perm.refl _))))))) ?_
                        refine J.wsEq (ws2 := ([(ga, iR g 64 gF)] ++ ([(wa, iR g 64 (nup wF k wk))] ++ ([(la, iR g 64 (nup lF k lk))] ++ ([(ba, iR g 64 (nup bF k bk))])))) ++ ([(qa, iR g 8 qF)] ++ ([(ta, iR g 64 tF)] ++ ([(q2, iR g 8 (mgF (posL.getD k 0) a d))])))) (by simp only [List.append_assoc]) ?_
                        refine j_callSx_L F (As := [.long (lN B), .int (iI (((mgN (posL.getD k 0) a d) : Nat) : Int)), .int (iI (k : Int)), .ref ga, .ref wa, .ref la, .ref ba]) (wr := [(qa, iR g 8 qF)] ++ ([(ta, iR g 64 tF)] ++ ([(q2, iR g 8 (mgF (posL.getD k 0) a d))]))) (st := []) (c_L_note hfl D g z ga wa la ba B (mgN (posL.getD k 0) a d) k (vC G S M (posL.getD (mgN (posL.getD k 0) a d) 0)).1 gF (nup wF k wk) (nup lF k lk) (nup bF k bk) (by omega) (by omega) t1 (by omega) (by rw [eB, t4]; omega) (by rw [eL, t2, nup_s]; omega) (by rw [eb, t3, nup_s]; omega)) (idx := 28) gL_learn_L_note rfl  (by decide) (by decide) (le_ble rfl) ⟨by decide, by decide⟩ dL_learn_333 ?_
                        rintro r9 u9 rfl
                        refine J.wsEq (ws2 := [(ga, iR g 64 gF)] ++ ([(wa, iR g 64 (nup (nup wF k wk) k (if (nup wF k wk) (mgN (posL.getD k 0) a d) = 0 then 1 else (nup wF k wk) k)))] ++ ([(la, iR g 64 (nup (nup lF k lk) k (if (nup lF k lk) k < (nup lF k lk) (mgN (posL.getD k 0) a d) + 1 then (nup lF k lk) (mgN (posL.getD k 0) a d) + 1 else (nup lF k lk) k)))] ++ ([(ba, iR g 64 (nup (nup bF k bk) k (if (nup bF k bk) (mgN (posL.getD k 0) a d) + 1 < (nup bF k bk) k then (nup bF k bk) (mgN (posL.getD k 0) a d) + 1 else (nup bF k bk) k)))] ++ ([(qa, iR g 8 qF)] ++ ([(ta, iR g 64 tF)] ++ ([(q2, iR g 8 (mgF (posL.getD k 0) a d))]))))))) (by first | rfl | simp only [List.append_assoc, List.append_nil, List.nil_append]) ?_
                        refine J.permL (ws2 := [(qa, iR g 8 qF)] ++ ([(ta, iR g 64 tF)] ++ ([(ga, iR g 64 gF)] ++ ([(wa, iR g 64 (nup (nup wF k wk) k (if (nup wF k wk) (mgN (posL.getD k 0) a d) = 0 then 1 else (nup wF k wk) k)))] ++ ([(la, iR g 64 (nup (nup lF k lk) k (if (nup lF k lk) k < (nup lF k lk) (mgN (posL.getD k 0) a d) + 1 then (nup lF k lk) (mgN (posL.getD k 0) a d) + 1 else (nup lF k lk) k)))] ++ ([(ba, iR g 64 (nup (nup bF k bk) k (if (nup bF k bk) (mgN (posL.getD k 0) a d) + 1 < (nup bF k bk) k then (nup bF k bk) (mgN (posL.getD k 0) a d) + 1 else (nup bF k bk) k)))] ++ ([(q2, iR g 8 (mgF (posL.getD k 0) a d))]))))))) (pm_c (pm_s (pm_s (pm_s (pm_s pm_0)))) (pm_c (pm_s (pm_s (pm_s (pm_s pm_0)))) (pm_c pm_0 (pm_c pm_0 (pm_c pm_0 (pm_c pm_0 (List.Perm.refl _))))))) ?_
                        refine J.wsEq (ws2 := [(qa, iR g 8 qF)] ++ ([(ta, iR g 64 tF)] ++ ([(ga, iR g 64 gF)] ++ ([(wa, iR g 64 (nup wF k (if (((vC G S M (posL.getD (mgN (posL.getD k 0) a d) 0)).2.1 : Nat) : Int) = 0 then 1 else wk)))] ++ ([(la, iR g 64 (nup lF k (if lk < (((vC G S M (posL.getD (mgN (posL.getD k 0) a d) 0)).2.2.1 : Nat) : Int) + 1 then (((vC G S M (posL.getD (mgN (posL.getD k 0) a d) 0)).2.2.1 : Nat) : Int) + 1 else lk)))] ++ ([(ba, iR g 64 (nup bF k (if (((vC G S M (posL.getD (mgN (posL.getD k 0) a d) 0)).2.2.2 : Nat) : Int) + 1 < bk then (((vC G S M (posL.getD (mgN (posL.getD k 0) a d) 0)).2.2.2 : Nat) : Int) + 1 else bk)))] ++ ([(q2, iR g 8 (mgF (posL.getD k 0) a d))]))))))) (by first | (rw [eB, eL, eb, t4, t2, t3, nup_s, nup_s, nup_s, nup2, nup2, nup2]) | (dsimp only; rw [eB, eL, eb, t4, t2, t3, nup_s, nup_s, nup_s, nup2, nup2, nup2])) ?_
                        refine j_lstore F (lv' := [(8, .long (lN (B ||| 2 ^ (vC G S M (posL.getD (mgN (posL.getD k 0) a d) 0)).1))), (11, .int (iI (d : Int))), (10, .int (iI (a : Int))), (7, .int (iI (k : Int))), (6, .ref q2), (0, .ref qa), (1, .ref ta), (2, .ref ga), (3, .ref wa), (4, .ref la), (5, .ref ba)]) dL_learn_336 (by decide) rfl ?_
                        refine j_aload F dL_learn_338 4 rfl ?_
                        refine j_iload F dL_learn_340 2 rfl ?_
                        refine j_iload F dL_learn_342 1 rfl ?_
                        refine j_iadd F dL_learn_344 ?_
                        refine j_iconst F dL_learn_345 ?_
                        refine j_isub F dL_learn_346 ?_
                        refine j_dup2 F dL_learn_347 rfl rfl ?_
                        refine j_iald F 6 (n := 8) (f := (mgF (posL.getD k 0) a d)) rfl (a + d - 1) (by omega) (by omega) (by decide) dL_learn_348 ?_
                        refine j_iconst F dL_learn_349 ?_
                        refine j_isub F dL_learn_350 ?_
                        refine j_iast F (ws' := [(qa, iR g 8 qF)] ++ ([(ta, iR g 64 tF)] ++ ([(ga, iR g 64 gF)] ++ ([(wa, iR g 64 (nup wF k (if (((vC G S M (posL.getD (mgN (posL.getD k 0) a d) 0)).2.1 : Nat) : Int) = 0 then 1 else wk)))] ++ ([(la, iR g 64 (nup lF k (if lk < (((vC G S M (posL.getD (mgN (posL.getD k 0) a d) 0)).2.2.1 : Nat) : Int) + 1 then (((vC G S M (posL.getD (mgN (posL.getD k 0) a d) 0)).2.2.1 : Nat) : Int) + 1 else lk)))] ++ ([(ba, iR g 64 (nup bF k (if (((vC G S M (posL.getD (mgN (posL.getD k 0) a d) 0)).2.2.2 : Nat) : Int) + 1 < bk then (((vC G S M (posL.getD (mgN (posL.getD k 0) a d) 0)).2.2.2 : Nat) : Int) + 1 else bk)))] ++ ([(q2, iR g 8 (nup (mgF (posL.getD k 0) a d) (a + d - 1) ((mgF (posL.getD k 0) a d) (a + d - 1) - 1)))]))))))) 6 (n := 8) (f := (mgF (posL.getD k 0) a d)) rfl (a + d - 1) (by omega) (by omega) (by decide) rfl dL_learn_351 ?_
                        refine J.wsEq (ws2 := [(qa, iR g 8 qF)] ++ ([(ta, iR g 64 tF)] ++ ([(ga, iR g 64 gF)] ++ ([(wa, iR g 64 (nup wF k (if (((vC G S M (posL.getD (mgN (posL.getD k 0) a d) 0)).2.1 : Nat) : Int) = 0 then 1 else wk)))] ++ ([(la, iR g 64 (nup lF k (if lk < (((vC G S M (posL.getD (mgN (posL.getD k 0) a d) 0)).2.2.1 : Nat) : Int) + 1 then (((vC G S M (posL.getD (mgN (posL.getD k 0) a d) 0)).2.2.1 : Nat) : Int) + 1 else lk)))] ++ ([(ba, iR g 64 (nup bF k (if (((vC G S M (posL.getD (mgN (posL.getD k 0) a d) 0)).2.2.2 : Nat) : Int) + 1 < bk then (((vC G S M (posL.getD (mgN (posL.getD k 0) a d) 0)).2.2.2 : Nat) : Int) + 1 else bk)))] ++ ([(q2, iR g 8 (m1F (posL.getD k 0) a d))]))))))) (by first | (rw [mg_back1]) | (dsimp only; rw [mg_back1])) ?_
                        refine j_aload F dL_learn_352 4 rfl ?_
                        refine j_iload F dL_learn_354 1 rfl ?_
                        refine j_dup2 F dL_learn_356 rfl rfl ?_
                        refine j_iald F 6 (n := 8) (f := (m1F (posL.getD k 0) a d)) rfl d (rfl) (by omega) (by decide) dL_learn_357 ?_
                        refine j_iconst F dL_learn_358 ?_
                        refine j_iadd F dL_learn_359 ?_
                        refine j_iast F (ws' := [(qa, iR g 8 qF)] ++ ([(ta, iR g 64 tF)] ++ ([(ga, iR g 64 gF)] ++ ([(wa, iR g 64 (nup wF k (if (((vC G S M (posL.getD (mgN (posL.getD k 0) a d) 0)).2.1 : Nat) : Int) = 0 then 1 else wk)))] ++ ([(la, iR g 64 (nup lF k (if lk < (((vC G S M (posL.getD (mgN (posL.getD k 0) a d) 0)).2.2.1 : Nat) : Int) + 1 then (((vC G S M (posL.getD (mgN (posL.getD k 0) a d) 0)).2.2.1 : Nat) : Int) + 1 else lk)))] ++ ([(ba, iR g 64 (nup bF k (if (((vC G S M (posL.getD (mgN (posL.getD k 0) a d) 0)).2.2.2 : Nat) : Int) + 1 < bk then (((vC G S M (posL.getD (mgN (posL.getD k 0) a d) 0)).2.2.2 : Nat) : Int) + 1 else bk)))] ++ ([(q2, iR g 8 (nup (m1F (posL.getD k 0) a d) d ((m1F (posL.getD k 0) a d) d + 1)))]))))))) 6 (n := 8) (f := (m1F (posL.getD k 0) a d)) rfl d (rfl) (by omega) (by decide) rfl dL_learn_360 ?_
                        refine J.wsEq (ws2 := [(qa, iR g 8 qF)] ++ ([(ta, iR g 64 tF)] ++ ([(ga, iR g 64 gF)] ++ ([(wa, iR g 64 (nup wF k (if (((vC G S M (posL.getD (mgN (posL.getD k 0) a d) 0)).2.1 : Nat) : Int) = 0 then 1 else wk)))] ++ ([(la, iR g 64 (nup lF k (if lk < (((vC G S M (posL.getD (mgN (posL.getD k 0) a d) 0)).2.2.1 : Nat) : Int) + 1 then (((vC G S M (posL.getD (mgN (posL.getD k 0) a d) 0)).2.2.1 : Nat) : Int) + 1 else lk)))] ++ ([(ba, iR g 64 (nup bF k (if (((vC G S M (posL.getD (mgN (posL.getD k 0) a d) 0)).2.2.2 : Nat) : Int) + 1 < bk then (((vC G S M (posL.getD (mgN (posL.getD k 0) a d) 0)).2.2.2 : Nat) : Int) + 1 else bk)))] ++ ([(q2, iR g 8 (c1F (posL.getD k 0) a))]))))))) (by first | (rw [mg_back2]) | (dsimp only; rw [mg_back2])) ?_
                        refine j_iinc F (lv' := [(11, .int (iI ((d : Int) + 1))), (8, .long (lN (B ||| 2 ^ (vC G S M (posL.getD (mgN (posL.getD k 0) a d) 0)).1))), (10, .int (iI (a : Int))), (7, .int (iI (k : Int))), (6, .ref q2), (0, .ref qa), (1, .ref ta), (2, .ref ga), (3, .ref wa), (4, .ref la), (5, .ref ba)]) dL_learn_361 1 rfl (by decide) rfl ?_
                        refine j_goto F (tgt := 266) dL_learn_364 (by decide) ?_
                        refine J.loc [0, 2, 1, 3, 4, 5, 6, 7, 8, 9, 10] rfl ?_
                        exact ih266 ((d + 1), (B ||| 2 ^ (vC G S M (posL.getD (mgN (posL.getD k 0) a d) 0)).1), (if (((vC G S M (posL.getD (mgN (posL.getD k 0) a d) 0)).2.1 : Nat) : Int) = 0 then 1 else wk), (if lk < (((vC G S M (posL.getD (mgN (posL.getD k 0) a d) 0)).2.2.1 : Nat) : Int) + 1 then (((vC G S M (posL.getD (mgN (posL.getD k 0) a d) 0)).2.2.1 : Nat) : Int) + 1 else lk), (if (((vC G S M (posL.getD (mgN (posL.getD k 0) a d) 0)).2.2.2 : Nat) : Int) + 1 < bk then (((vC G S M (posL.getD (mgN (posL.getD k 0) a d) 0)).2.2.2 : Nat) : Int) + 1 else bk)) (by show ((1 ≤ (d + 1) ∧ (d + 1) ≤ 8) ∧ ((d + 1) = 1 ∨ M = 1)) ∧ lnI G S M k (nxA G S M (posL.getD k 0) (a - 1) ++ (ntk (posL.getD k 0) a (min G a) ++ ((if S = 1 then nsp (posL.getD k 0) a (a / 2) else []) ++ nmg (posL.getD k 0) a ((d + 1) - 1)))) (B ||| 2 ^ (vC G S M (posL.getD (mgN (posL.getD k 0) a d) 0)).1) (if (((vC G S M (posL.getD (mgN (posL.getD k 0) a d) 0)).2.1 : Nat) : Int) = 0 then 1 else wk) (if lk < (((vC G S M (posL.getD (mgN (posL.getD k 0) a d) 0)).2.2.1 : Nat) : Int) + 1 then (((vC G S M (posL.getD (mgN (posL.getD k 0) a d) 0)).2.2.1 : Nat) : Int) + 1 else lk) (if (((vC G S M (posL.getD (mgN (posL.getD k 0) a d) 0)).2.2.2 : Nat) : Int) + 1 < bk then (((vC G S M (posL.getD (mgN (posL.getD k 0) a d) 0)).2.2.2 : Nat) : Int) + 1 else bk); first | exact ⟨by omega, by rw [nmg_s d1, if_pos c285, List.append_nil]; exact hln⟩ | exact ⟨by omega, by rw [nmg_s d1, if_neg c285]; simpa only [List.append_assoc] using lnI_s hln hk45 ok1⟩) (by show 8 - (d + 1) < 8 - d; omega)
                      · refine j_goto F (tgt := 361) dL_learn_288 (by decide) ?_
                        refine j_iinc F (lv' := [(11, .int (iI ((d : Int) + 1))), (10, .int (iI (a : Int))), (8, .long (lN B)), (7, .int (iI (k : Int))), (6, .ref q2), (0, .ref qa), (1, .ref ta), (2, .ref ga), (3, .ref wa), (4, .ref la), (5, .ref ba)]) dL_learn_361 0 rfl (by decide) rfl ?_
                        refine j_goto F (tgt := 266) dL_learn_364 (by decide) ?_
                        refine J.loc [0, 1, 2, 3, 4, 5, 6, 7, 8, 9, 10] rfl ?_
                        exact ih266 ((d + 1), B, wk, lk, bk) (by show ((1 ≤ (d + 1) ∧ (d + 1) ≤ 8) ∧ ((d + 1) = 1 ∨ M = 1)) ∧ lnI G S M k (nxA G S M (posL.getD k 0) (a - 1) ++ (ntk (posL.getD k 0) a (min G a) ++ ((if S = 1 then nsp (posL.getD k 0) a (a / 2) else []) ++ nmg (posL.getD k 0) a ((d + 1) - 1)))) B wk lk bk; first | exact ⟨by omega, by rw [nmg_s d1, if_pos c285, List.append_nil]; exact hln⟩ | exact ⟨by omega, by rw [nmg_s d1, if_neg c285]; simpa only [List.append_assoc] using lnI_s hln hk45 ok1⟩) (by show 8 - (d + 1) < 8 - d; omega)
              · intro hj263
                refine j_istore F (lv' := [(11, .int (iI 1)), (10, .int (iI (a : Int))), (8, .long (lN B)), (7, .int (iI (k : Int))), (6, .ref q2), (0, .ref qa), (1, .ref ta), (2, .ref ga), (3, .ref wa), (4, .ref la), (5, .ref ba)]) dL_learn_173 (by decide) rfl ?_
                refine J.loc [0, 1, 2, 3, 4, 5, 6, 7, 8, 9, 10] rfl ?_
                refine J_loop (σ := Nat × Nat × Int × Int × Int) (fun x9 : Nat × Nat × Int × Int × Int => match x9 with | (v, B, wk, lk, bk) => ((1 ≤ v ∧ 2 * v ≤ a + 2) ∧ (v = 1 ∨ S = 1)) ∧ lnI G S M k (nxA G S M (posL.getD k 0) (a - 1) ++ (ntk (posL.getD k 0) a (min G a) ++ nsp (posL.getD k 0) a (v - 1))) B wk lk bk) (fun x9 : Nat × Nat × Int × Int × Int => match x9 with | (v, B, wk, lk, bk) => a + 2 - v) (fun x9 : Nat × Nat × Int × Int × Int => match x9 with | (v, B, wk, lk, bk) => [(qa, iR g 8 qF)] ++ ([(ta, iR g 64 tF)] ++ ([(ga, iR g 64 gF)] ++ ([(wa, iR g 64 (nup wF k wk))] ++ ([(la, iR g 64 (nup lF k lk))] ++ ([(ba, iR g 64 (nup bF k bk))] ++ ([(q2, iR g 8 (c1F (posL.getD k 0) a))]))))))) (fun x9 : Nat × Nat × Int × Int × Int => match x9 with | (v, B, wk, lk, bk) => [(11, .int (iI (v : Int))), (10, .int (iI (a : Int))), (8, .long (lN B)), (7, .int (iI (k : Int))), (6, .ref q2), (0, .ref qa), (1, .ref ta), (2, .ref ga), (3, .ref wa), (4, .ref la), (5, .ref ba)]) (1, B, wk, lk, bk) (by show ((1 ≤ 1 ∧ 2 * 1 ≤ a + 2) ∧ (1 = 1 ∨ S = 1)) ∧ lnI G S M k (nxA G S M (posL.getD k 0) (a - 1) ++ (ntk (posL.getD k 0) a (min G a) ++ nsp (posL.getD k 0) a (1 - 1))) B wk lk bk; exact ⟨by omega, by rw [show nsp (posL.getD k 0) a (1 - 1) = [] from rfl, List.append_nil]; exact hln⟩) ?_
                rintro ⟨v, B, wk, lk, bk⟩ hI ih175
                have hI : ((1 ≤ v ∧ 2 * v ≤ a + 2) ∧ (v = 1 ∨ S = 1)) ∧ lnI G S M k (nxA G S M (posL.getD k 0) (a - 1) ++ (ntk (posL.getD k 0) a (min G a) ++ nsp (posL.getD k 0) a (v - 1))) B wk lk bk := hI
                obtain ⟨⟨⟨v1, v2⟩, v3⟩, hln⟩ := hI
                refine j_aload_n F dL_learn_175 rfl 5 rfl ?_
                refine j_iconst F dL_learn_176 ?_
                refine j_iald F 0 (n := 8) (f := qF) rfl 1 (by decide) (by decide) (by decide) dL_learn_177 ?_
                refine J.top (congrArg iI (show qF 1 = (S : Int) from hq1)) ?_
                refine j_iconst F dL_learn_178 ?_
                refine j_icmp_ne F (tgt := 263) dL_learn_179 (by decide) ⟨(by unfold rg; omega), (by unfold rg; omega)⟩ (fun c179 => ?_) (fun c179 => ?_)
                · refine J.loc [1, 2, 3, 4, 5, 6, 7, 8, 9, 10] rfl ?_
                  exact hj263 (B, wk, lk, bk) (by show lnI G S M k (nxA G S M (posL.getD k 0) (a - 1) ++ (ntk (posL.getD k 0) a (min G a) ++ (if S = 1 then nsp (posL.getD k 0) a (a / 2) else []))) B wk lk bk; first | (rw [if_neg (show ¬ S = 1 by omega)]; have e9 : v = 1 := (by omega); subst e9; exact hln) | (rw [if_pos (show S = 1 by omega), show a / 2 = v - 1 by omega]; exact hln))
                · refine j_iconst F dL_learn_182 ?_
                  refine j_iload F dL_learn_183 0 rfl ?_
                  refine j_imul F dL_learn_185 ?_
                  refine j_iload F dL_learn_186 1 rfl ?_
                  refine j_icmp_gt F (tgt := 263) dL_learn_188 (by decide) ⟨(by unfold rg; omega), (by unfold rg; omega)⟩ (fun c188 => ?_) (fun c188 => ?_)
                  · refine J.loc [1, 2, 3, 4, 5, 6, 7, 8, 9, 10] rfl ?_
                    exact hj263 (B, wk, lk, bk) (by show lnI G S M k (nxA G S M (posL.getD k 0) (a - 1) ++ (ntk (posL.getD k 0) a (min G a) ++ (if S = 1 then nsp (posL.getD k 0) a (a / 2) else []))) B wk lk bk; first | (rw [if_neg (show ¬ S = 1 by omega)]; have e9 : v = 1 := (by omega); subst e9; exact hln) | (rw [if_pos (show S = 1 by omega), show a / 2 = v - 1 by omega]; exact hln))
                  · refine j_aload F dL_learn_191 4 rfl ?_
                    refine j_iload F dL_learn_193 0 rfl ?_
                    refine j_dup2 F dL_learn_195 rfl rfl ?_
                    refine j_iald F 6 (n := 8) (f := (c1F (posL.getD k 0) a)) rfl v (rfl) (by omega) (by decide) dL_learn_196 ?_
                    refine j_iconst F dL_learn_197 ?_
                    refine j_iadd F dL_learn_198 ?_
                    refine j_iast F (ws' := [(qa, iR g 8 qF)] ++ ([(ta, iR g 64 tF)] ++ ([(ga, iR g 64 gF)] ++ ([(wa, iR g 64 (nup wF k wk))] ++ ([(la, iR g 64 (nup lF k lk))] ++ ([(ba, iR g 64 (nup bF k bk))] ++ ([(q2, iR g 8 (nup (c1F (posL.getD k 0) a) v ((c1F (posL.getD k 0) a) v + 1)))]))))))) 6 (n := 8) (f := (c1F (posL.getD k 0) a)) rfl v (rfl) (by omega) (by decide) rfl dL_learn_199 ?_
                    refine j_aload F dL_learn_200 4 rfl ?_
                    refine j_iload F dL_learn_202 1 rfl ?_
                    refine j_iload F dL_learn_204 0 rfl ?_
                    refine j_isub F dL_learn_206 ?_
                    refine j_dup2 F dL_learn_207 rfl rfl ?_
                    refine j_iald F 6 (n := 8) (f := (nup (c1F (posL.getD k 0) a) v ((c1F (posL.getD k 0) a) v + 1))) rfl (a - v) (by omega) (by omega) (by decide) dL_learn_208 ?_
                    refine j_iconst F dL_learn_209 ?_
                    refine j_iadd F dL_learn_210 ?_
                    refine j_iast F (ws' := [(qa, iR g 8 qF)] ++ ([(ta, iR g 64 tF)] ++ ([(ga, iR g 64 gF)] ++ ([(wa, iR g 64 (nup wF k wk))] ++ ([(la, iR g 64 (nup lF k lk))] ++ ([(ba, iR g 64 (nup bF k bk))] ++ ([(q2, iR g 8 (nup (nup (c1F (posL.getD k 0) a) v ((c1F (posL.getD k 0) a) v + 1)) (a - v) ((nup (c1F (posL.getD k 0) a) v ((c1F (posL.getD k 0) a) v + 1)) (a - v) + 1)))]))))))) 6 (n := 8) (f := (nup (c1F (posL.getD k 0) a) v ((c1F (posL.getD k 0) a) v + 1))) rfl (a - v) (by omega) (by omega) (by decide) rfl dL_learn_211 ?_
                    refine J.wsEq (ws2 := [(qa, iR g 8 qF)] ++ ([(ta, iR g 64 tF)] ++ ([(ga, iR g 64 gF)] ++ ([(wa, iR g 64 (nup wF k wk))] ++ ([(la, iR g 64 (nup lF k lk))] ++ ([(ba, iR g 64 (nup bF k bk))] ++ ([(q2, iR g 8 (spF (posL.getD k 0) a v))]))))))) (rfl) ?_
                    refine j_lload F dL_learn_212 2 rfl ?_
                    refine j_aload F dL_learn_214 4 rfl ?_
                    obtain ⟨ok1, ok2⟩ := sp_ok hk45 (show a < 8 by omega) c85 v1 (show 2 * v ≤ a by omega)
                    obtain ⟨t1, t2, t3, t4⟩ := htab (spN (posL.getD k 0) a v) ok1
                    obtain ⟨y1, y2, y3, y4⟩ := vC_b (G := G) (S := S) (M := M) (k := (spN (posL.getD k 0) a v)) (by omega)
                    have hne : ¬ (spN (posL.getD k 0) a v) = k := by omega
                    have hlb := lnI_b hln hk45
                    have eB := nup_n (k := k) wF wk hne
                    have eL := nup_n (k := k) lF lk hne
                    have eb := nup_n (k := k) bF bk hne
                    refine J.permL (ws2 := [(q2, iR g 8 (spF (posL.getD k 0) a v))] ++ ([(qa, iR g 8 qF)] ++ ([(ta, iR g 64 tF)] ++ ([(ga, iR g 64 gF)] ++ ([(wa, iR g 64 (nup wF k wk))] ++ ([(la, iR g 64 (nup lF k lk))] ++ ([(ba, iR g 64 (nup bF k bk))]))))))) (pm_c (pm_s (pm_s (pm_s (pm_s (pm_s pm_e))))) (pm_c pm_0 (pm_c pm_0 (pm_c pm_0 (pm_c pm_0 (pm_c pm_0 (List.Perm.refl _))))))) ?_
                    refine j_callSx_I F (As := [.ref q2]) (wr := [(qa, iR g 8 qF)] ++ ([(ta, iR g 64 tF)] ++ ([(ga, iR g 64 gF)] ++ ([(wa, iR g 64 (nup wF k wk))] ++ ([(la, iR g 64 (nup lF k lk))] ++ ([(ba, iR g 64 (nup bF k bk))])))))) (st := [.long (lN B)]) (c_L_code hfl D g z q2 (spF (posL.getD k 0) a v)) (idx := 20) gL_learn_L_code rfl  (by decide) (by decide) (le_ble rfl) ⟨by decide, by decide⟩ dL_learn_216 ?_
                    rintro r9 u9 rfl
                    rw [ok2]
                    refine J.wsEq (ws2 := [(q2, iR g 8 (spF (posL.getD k 0) a v))] ++ ([(qa, iR g 8 qF)] ++ ([(ta, iR g 64 tF)] ++ ([(ga, iR g 64 gF)] ++ ([(wa, iR g 64 (nup wF k wk))] ++ ([(la, iR g 64 (nup lF k lk))] ++ ([(ba, iR g 64 (nup bF k bk))]))))))) (by first | rfl | simp only [List.append_assoc, List.append_nil, List.nil_append]) ?_
                    refine J.permL (ws2 := [(qa, iR g 8 qF)] ++ ([(ta, iR g 64 tF)] ++ ([(ga, iR g 64 gF)] ++ ([(wa, iR g 64 (nup wF k wk))] ++ ([(la, iR g 64 (nup lF k lk))] ++ ([(ba, iR g 64 (nup bF k bk))] ++ ([(q2, iR g 8 (spF (posL.getD k 0) a v))]))))))) (pm_c (pm_s pm_0) (pm_c (pm_s pm_0) (pm_c (pm_s pm_0) (pm_c (pm_s pm_0) (pm_c (pm_s pm_0) (pm_c pm_e (List.Perm.refl _))))))) ?_
                    refine j_aload_n F dL_learn_219 rfl 6 rfl ?_
                    refine J.permL (ws2 := [(ta, iR g 64 tF)] ++ ([(qa, iR g 8 qF)] ++ ([(ga, iR g 64 gF)] ++ ([(wa, iR g 64 (nup wF k wk))] ++ ([(la, iR g 64 (nup lF k lk))] ++ ([(ba, iR g 64 (nup bF k bk))] ++ ([(q2, iR g 8 (spF (posL.getD k 0) a v))]))))))) (pm_c (pm_s pm_0) (pm_c pm_0 (pm_c pm_0 (pm_c pm_0 (pm_c pm_0 (pm_c pm_0 (List.Perm.refl _))))))) ?_
                    refine j_callSx_I F (As := [.int (iI (((posL.getD (spN (posL.getD k 0) a v) 0) : Nat) : Int)), .ref ta]) (wr := [(qa, iR g 8 qF)] ++ ([(ga, iR g 64 gF)] ++ ([(wa, iR g 64 (nup wF k wk))] ++ ([(la, iR g 64 (nup lF k lk))] ++ ([(ba, iR g 64 (nup bF k bk))] ++ ([(q2, iR g 8 (spF (posL.getD k 0) a v))])))))) (st := [.long (lN B)]) (c_L_find hfl D g z ta tF (spN (posL.getD k 0) a v) (by omega) hT) (idx := 24) gL_learn_L_find rfl  (by decide) (by decide) (le_ble rfl) ⟨by decide, by decide⟩ dL_learn_220 ?_
                    rintro r9 u9 rfl
                    refine J.wsEq (ws2 := [(ta, iR g 64 tF)] ++ ([(qa, iR g 8 qF)] ++ ([(ga, iR g 64 gF)] ++ ([(wa, iR g 64 (nup wF k wk))] ++ ([(la, iR g 64 (nup lF k lk))] ++ ([(ba, iR g 64 (nup bF k bk))] ++ ([(q2, iR g 8 (spF (posL.getD k 0) a v))]))))))) (by first | rfl | simp only [List.append_assoc, List.append_nil, List.nil_append]) ?_
                    refine J.permL (ws2 := [(qa, iR g 8 qF)] ++ ([(ta, iR g 64 tF)] ++ ([(ga, iR g 64 gF)] ++ ([(wa, iR g 64 (nup wF k wk))] ++ ([(la, iR g 64 (nup lF k lk))] ++ ([(ba, iR g 64 (nup bF k bk))] ++ ([(q2, iR g 8 (spF (posL.getD k 0) a v))]))))))) (pm_c (pm_s pm_0) (pm_c pm_0 (pm_c pm_0 (pm_c pm_0 (pm_c pm_0 (pm_c pm_0 (List.Perm.refl _))))))) ?_
                    refine j_iload F dL_learn_223 3 rfl ?_
                    refine j_aload_n F dL_learn_225 rfl 7 rfl ?_
                    refine j_aload_n F dL_learn_226 rfl 8 rfl ?_
                    refine j_aload F dL_learn_227 9 rfl ?_
                    refine j_aload F dL_learn_229 10 rfl ?_
                    refine J.permL (ws2 := [(ga, iR g 64 gF)] ++ ([(wa, iR g 64 (nup wF k wk))] ++ ([(la, iR g 64 (nup lF k lk))] ++ ([(ba, iR g 64 (nup bF k bk))] ++ ([(qa, iR g 8 qF)] ++ ([(ta, iR g 64 tF)] ++ ([(q2, iR g 8 (spF (posL.getD k 0) a v))]))))))) (pm_c (pm_s (pm_s pm_0)) (pm_c (pm_s (pm_s pm_0)) (pm_c (pm_s (pm_s pm_0)) (pm_c (pm_s (pm_s pm_0)) (pm_c pm_0 (pm_c pm_0 (List.Perm.refl _))))))) ?_
                    refine J.wsEq (ws2 := ([(ga, iR g 64 gF)] ++ ([(wa, iR g 64 (nup wF k wk))] ++ ([(la, iR g 64 (nup lF k lk))] ++ ([(ba, iR g 64 (nup bF k bk))])))) ++ ([(qa, iR g 8 qF)] ++ ([(ta, iR g 64 tF)] ++ ([(q2, iR g 8 (spF (posL.getD k 0) a v))])))) (by simp only [List.append_assoc]) ?_
                    refine j_callSx_L F (As := [.long (lN B), .int (iI (((spN (posL.getD k 0) a v) : Nat) : Int)), .int (iI (k : Int)), .ref ga, .ref wa, .ref la, .ref ba]) (wr := [(qa, iR g 8 qF)] ++ ([(ta, iR g 64 tF)] ++ ([(q2, iR g 8 (spF (posL.getD k 0) a v))]))) (st := []) (c_L_note hfl D g z ga wa la ba B (spN (posL.getD k 0) a v) k (vC G S M (posL.getD (spN (posL.getD k 0) a v) 0)).1 gF (nup wF k wk) (nup lF k lk) (nup bF k bk) (by omega) (by omega) t1 (by omega) (by rw [eB, t4]; omega) (by rw [eL, t2, nup_s]; omega) (by rw [eb, t3, nup_s]; omega)) (idx := 28) gL_learn_L_note rfl  (by decide) (by decide) (le_ble rfl) ⟨by decide, by decide⟩ dL_learn_231 ?_
                    rintro r9 u9 rfl
                    refine J.wsEq (ws2 := [(ga, iR g 64 gF)] ++ ([(wa, iR g 64 (nup (nup wF k wk) k (if (nup wF k wk) (spN (posL.getD k 0) a v) = 0 then 1 else (nup wF k wk) k)))] ++ ([(la, iR g 64 (nup (nup lF k lk) k (if (nup lF k lk) k < (nup lF k lk) (spN (posL.getD k 0) a v) + 1 then (nup lF k lk) (spN (posL.getD k 0) a v) + 1 else (nup lF k lk) k)))] ++ ([(ba, iR g 64 (nup (nup bF k bk) k (if (nup bF k bk) (spN (posL.getD k 0) a v) + 1 < (nup bF k bk) k then (nup bF k bk) (spN (posL.getD k 0) a v) + 1 else (nup bF k bk) k)))] ++ ([(qa, iR g 8 qF)] ++ ([(ta, iR g 64 tF)] ++ ([(q2, iR g 8 (spF (posL.getD k 0) a v))]))))))) (by first | rfl | simp only [List.append_assoc, List.append_nil, List.nil_append]) ?_
                    refine J.permL (ws2 := [(qa, iR g 8 qF)] ++ ([(ta, iR g 64 tF)] ++ ([(ga, iR g 64 gF)] ++ ([(wa, iR g 64 (nup (nup wF k wk) k (if (nup wF k wk) (spN (posL.getD k 0) a v) = 0 then 1 else (nup wF k wk) k)))] ++ ([(la, iR g 64 (nup (nup lF k lk) k (if (nup lF k lk) k < (nup lF k lk) (spN (posL.getD k 0) a v) + 1 then (nup lF k lk) (spN (posL.getD k 0) a v) + 1 else (nup lF k lk) k)))] ++ ([(ba, iR g 64 (nup (nup bF k bk) k (if (nup bF k bk) (spN (posL.getD k 0) a v) + 1 < (nup bF k bk) k then (nup bF k bk) (spN (posL.getD k 0) a v) + 1 else (nup bF k bk) k)))] ++ ([(q2, iR g 8 (spF (posL.getD k 0) a v))]))))))) (pm_c (pm_s (pm_s (pm_s (pm_s pm_0)))) (pm_c (pm_s (pm_s (pm_s (pm_s pm_0)))) (pm_c pm_0 (pm_c pm_0 (pm_c pm_0 (pm_c pm_0 (List.Perm.refl _))))))) ?_
                    refine J.wsEq (ws2 := [(qa, iR g 8 qF)] ++ ([(ta, iR g 64 tF)] ++ ([(ga, iR g 64 gF)] ++ ([(wa, iR g 64 (nup wF k (if (((vC G S M (posL.getD (spN (posL.getD k 0) a v) 0)).2.1 : Nat) : Int) = 0 then 1 else wk)))] ++ ([(la, iR g 64 (nup lF k (if lk < (((vC G S M (posL.getD (spN (posL.getD k 0) a v) 0)).2.2.1 : Nat) : Int) + 1 then (((vC G S M (posL.getD (spN (posL.getD k 0) a v) 0)).2.2.1 : Nat) : Int) + 1 else lk)))] ++ ([(ba, iR g 64 (nup bF k (if (((vC G S M (posL.getD (spN (posL.getD k 0) a v) 0)).2.2.2 : Nat) : Int) + 1 < bk then (((vC G S M (posL.getD (spN (posL.getD k 0) a v) 0)).2.2.2 : Nat) : Int) + 1 else bk)))] ++ ([(q2, iR g 8 (spF (posL.getD k 0) a v))]))))))) (by first | (rw [eB, eL, eb, t4, t2, t3, nup_s, nup_s, nup_s, nup2, nup2, nup2]) | (dsimp only; rw [eB, eL, eb, t4, t2, t3, nup_s, nup_s, nup_s, nup2, nup2, nup2])) ?_
                    refine j_lstore F (lv' := [(8, .long (lN (B ||| 2 ^ (vC G S M (posL.getD (spN (posL.getD k 0) a v) 0)).1))), (11, .int (iI (v : Int))), (10, .int (iI (a : Int))), (7, .int (iI (k : Int))), (6, .ref q2), (0, .ref qa), (1, .ref ta), (2, .ref ga), (3, .ref wa), (4, .ref la), (5, .ref ba)]) dL_learn_234 (by decide) rfl ?_
                    refine j_aload F dL_learn_236 4 rfl ?_
                    refine j_iload F dL_learn_238 1 rfl ?_
                    refine j_dup2 F dL_learn_240 rfl rfl ?_
                    refine j_iald F 6 (n := 8) (f := (spF (posL.getD k 0) a v)) rfl v (rfl) (by omega) (by decide) dL_learn_241 ?_
                    refine j_iconst F dL_learn_242 ?_
                    refine j_isub F dL_learn_243 ?_
                    refine j_iast F (ws' := [(qa, iR g 8 qF)] ++ ([(ta, iR g 64 tF)] ++ ([(ga, iR g 64 gF)] ++ ([(wa, iR g 64 (nup wF k (if (((vC G S M (posL.getD (spN (posL.getD k 0) a v) 0)).2.1 : Nat) : Int) = 0 then 1 else wk)))] ++ ([(la, iR g 64 (nup lF k (if lk < (((vC G S M (posL.getD (spN (posL.getD k 0) a v) 0)).2.2.1 : Nat) : Int) + 1 then (((vC G S M (posL.getD (spN (posL.getD k 0) a v) 0)).2.2.1 : Nat) : Int) + 1 else lk)))] ++ ([(ba, iR g 64 (nup bF k (if (((vC G S M (posL.getD (spN (posL.getD k 0) a v) 0)).2.2.2 : Nat) : Int) + 1 < bk then (((vC G S M (posL.getD (spN (posL.getD k 0) a v) 0)).2.2.2 : Nat) : Int) + 1 else bk)))] ++ ([(q2, iR g 8 (nup (spF (posL.getD k 0) a v) v ((spF (posL.getD k 0) a v) v - 1)))]))))))) 6 (n := 8) (f := (spF (posL.getD k 0) a v)) rfl v (rfl) (by omega) (by decide) rfl dL_learn_244 ?_
                    refine j_aload F dL_learn_245 4 rfl ?_
                    refine j_iload F dL_learn_247 2 rfl ?_
                    refine j_iload F dL_learn_249 1 rfl ?_
                    refine j_isub F dL_learn_251 ?_
                    refine j_dup2 F dL_learn_252 rfl rfl ?_
                    refine j_iald F 6 (n := 8) (f := (nup (spF (posL.getD k 0) a v) v ((spF (posL.getD k 0) a v) v - 1))) rfl (a - v) (by omega) (by omega) (by decide) dL_learn_253 ?_
                    refine j_iconst F dL_learn_254 ?_
                    refine j_isub F dL_learn_255 ?_
                    refine j_iast F (ws' := [(qa, iR g 8 qF)] ++ ([(ta, iR g 64 tF)] ++ ([(ga, iR g 64 gF)] ++ ([(wa, iR g 64 (nup wF k (if (((vC G S M (posL.getD (spN (posL.getD k 0) a v) 0)).2.1 : Nat) : Int) = 0 then 1 else wk)))] ++ ([(la, iR g 64 (nup lF k (if lk < (((vC G S M (posL.getD (spN (posL.getD k 0) a v) 0)).2.2.1 : Nat) : Int) + 1 then (((vC G S M (posL.getD (spN (posL.getD k 0) a v) 0)).2.2.1 : Nat) : Int) + 1 else lk)))] ++ ([(ba, iR g 64 (nup bF k (if (((vC G S M (posL.getD (spN (posL.getD k 0) a v) 0)).2.2.2 : Nat) : Int) + 1 < bk then (((vC G S M (posL.getD (spN (posL.getD k 0) a v) 0)).2.2.2 : Nat) : Int) + 1 else bk)))] ++ ([(q2, iR g 8 (nup (nup (spF (posL.getD k 0) a v) v ((spF (posL.getD k 0) a v) v - 1)) (a - v) ((nup (spF (posL.getD k 0) a v) v ((spF (posL.getD k 0) a v) v - 1)) (a - v) - 1)))]))))))) 6 (n := 8) (f := (nup (spF (posL.getD k 0) a v) v ((spF (posL.getD k 0) a v) v - 1))) rfl (a - v) (by omega) (by omega) (by decide) rfl dL_learn_256 ?_
                    refine J.wsEq (ws2 := [(qa, iR g 8 qF)] ++ ([(ta, iR g 64 tF)] ++ ([(ga, iR g 64 gF)] ++ ([(wa, iR g 64 (nup wF k (if (((vC G S M (posL.getD (spN (posL.getD k 0) a v) 0)).2.1 : Nat) : Int) = 0 then 1 else wk)))] ++ ([(la, iR g 64 (nup lF k (if lk < (((vC G S M (posL.getD (spN (posL.getD k 0) a v) 0)).2.2.1 : Nat) : Int) + 1 then (((vC G S M (posL.getD (spN (posL.getD k 0) a v) 0)).2.2.1 : Nat) : Int) + 1 else lk)))] ++ ([(ba, iR g 64 (nup bF k (if (((vC G S M (posL.getD (spN (posL.getD k 0) a v) 0)).2.2.2 : Nat) : Int) + 1 < bk then (((vC G S M (posL.getD (spN (posL.getD k 0) a v) 0)).2.2.2 : Nat) : Int) + 1 else bk)))] ++ ([(q2, iR g 8 (c1F (posL.getD k 0) a))]))))))) (by first | (rw [sp_back]) | (dsimp only; rw [sp_back])) ?_
                    refine j_iinc F (lv' := [(11, .int (iI ((v : Int) + 1))), (8, .long (lN (B ||| 2 ^ (vC G S M (posL.getD (spN (posL.getD k 0) a v) 0)).1))), (10, .int (iI (a : Int))), (7, .int (iI (k : Int))), (6, .ref q2), (0, .ref qa), (1, .ref ta), (2, .ref ga), (3, .ref wa), (4, .ref la), (5, .ref ba)]) dL_learn_257 1 rfl (by decide) rfl ?_
                    refine j_goto F (tgt := 175) dL_learn_260 (by decide) ?_
                    refine J.loc [0, 2, 1, 3, 4, 5, 6, 7, 8, 9, 10] rfl ?_
                    exact ih175 ((v + 1), (B ||| 2 ^ (vC G S M (posL.getD (spN (posL.getD k 0) a v) 0)).1), (if (((vC G S M (posL.getD (spN (posL.getD k 0) a v) 0)).2.1 : Nat) : Int) = 0 then 1 else wk), (if lk < (((vC G S M (posL.getD (spN (posL.getD k 0) a v) 0)).2.2.1 : Nat) : Int) + 1 then (((vC G S M (posL.getD (spN (posL.getD k 0) a v) 0)).2.2.1 : Nat) : Int) + 1 else lk), (if (((vC G S M (posL.getD (spN (posL.getD k 0) a v) 0)).2.2.2 : Nat) : Int) + 1 < bk then (((vC G S M (posL.getD (spN (posL.getD k 0) a v) 0)).2.2.2 : Nat) : Int) + 1 else bk)) (by show ((1 ≤ (v + 1) ∧ 2 * (v + 1) ≤ a + 2) ∧ ((v + 1) = 1 ∨ S = 1)) ∧ lnI G S M k (nxA G S M (posL.getD k 0) (a - 1) ++ (ntk (posL.getD k 0) a (min G a) ++ nsp (posL.getD k 0) a ((v + 1) - 1))) (B ||| 2 ^ (vC G S M (posL.getD (spN (posL.getD k 0) a v) 0)).1) (if (((vC G S M (posL.getD (spN (posL.getD k 0) a v) 0)).2.1 : Nat) : Int) = 0 then 1 else wk) (if lk < (((vC G S M (posL.getD (spN (posL.getD k 0) a v) 0)).2.2.1 : Nat) : Int) + 1 then (((vC G S M (posL.getD (spN (posL.getD k 0) a v) 0)).2.2.1 : Nat) : Int) + 1 else lk) (if (((vC G S M (posL.getD (spN (posL.getD k 0) a v) 0)).2.2.2 : Nat) : Int) + 1 < bk then (((vC G S M (posL.getD (spN (posL.getD k 0) a v) 0)).2.2.2 : Nat) : Int) + 1 else bk); exact ⟨by omega, by rw [nsp_s v1]; simpa only [List.append_assoc] using lnI_s hln hk45 ok1⟩) (by show a + 2 - (v + 1) < a + 2 - v; omega)
            · intro hj172
              refine j_istore F (lv' := [(11, .int (iI 1)), (10, .int (iI (a : Int))), (8, .long (lN B)), (7, .int (iI (k : Int))), (6, .ref q2), (0, .ref qa), (1, .ref ta), (2, .ref ga), (3, .ref wa), (4, .ref la), (5, .ref ba)]) dL_learn_101 (by decide) rfl ?_
              refine J.loc [0, 1, 2, 3, 4, 5, 6, 7, 8, 9, 10] rfl ?_
              refine J_loop (σ := Nat × Nat × Int × Int × Int) (fun x9 : Nat × Nat × Int × Int × Int => match x9 with | (v, B, wk, lk, bk) => (1 ≤ v ∧ v ≤ min G a + 1) ∧ lnI G S M k (nxA G S M (posL.getD k 0) (a - 1) ++ ntk (posL.getD k 0) a (v - 1)) B wk lk bk) (fun x9 : Nat × Nat × Int × Int × Int => match x9 with | (v, B, wk, lk, bk) => min G a + 1 - v) (fun x9 : Nat × Nat × Int × Int × Int => match x9 with | (v, B, wk, lk, bk) => [(qa, iR g 8 qF)] ++ ([(ta, iR g 64 tF)] ++ ([(ga, iR g 64 gF)] ++ ([(wa, iR g 64 (nup wF k wk))] ++ ([(la, iR g 64 (nup lF k lk))] ++ ([(ba, iR g 64 (nup bF k bk))] ++ ([(q2, iR g 8 (c1F (posL.getD k 0) a))]))))))) (fun x9 : Nat × Nat × Int × Int × Int => match x9 with | (v, B, wk, lk, bk) => [(11, .int (iI (v : Int))), (10, .int (iI (a : Int))), (8, .long (lN B)), (7, .int (iI (k : Int))), (6, .ref q2), (0, .ref qa), (1, .ref ta), (2, .ref ga), (3, .ref wa), (4, .ref la), (5, .ref ba)]) (1, B, wk, lk, bk) (by show (1 ≤ 1 ∧ 1 ≤ min G a + 1) ∧ lnI G S M k (nxA G S M (posL.getD k 0) (a - 1) ++ ntk (posL.getD k 0) a (1 - 1)) B wk lk bk; exact ⟨by omega, by rw [show ntk (posL.getD k 0) a (1 - 1) = [] from rfl, List.append_nil]; exact hln⟩) ?_
              rintro ⟨v, B, wk, lk, bk⟩ hI ih103
              have hI : (1 ≤ v ∧ v ≤ min G a + 1) ∧ lnI G S M k (nxA G S M (posL.getD k 0) (a - 1) ++ ntk (posL.getD k 0) a (v - 1)) B wk lk bk := hI
              obtain ⟨⟨v1, v2⟩, hln⟩ := hI
              refine j_iload F dL_learn_103 0 rfl ?_
              refine j_aload_n F dL_learn_105 rfl 5 rfl ?_
              refine j_iconst F dL_learn_106 ?_
              refine j_iald F 0 (n := 8) (f := qF) rfl 0 (by decide) (by decide) (by decide) dL_learn_107 ?_
              refine J.top (congrArg iI (show qF 0 = (G : Int) from hq0)) ?_
              refine j_icmp_gt F (tgt := 172) dL_learn_108 (by decide) ⟨(by unfold rg; omega), (by unfold rg; omega)⟩ (fun c108 => ?_) (fun c108 => ?_)
              · refine J.loc [1, 2, 3, 4, 5, 6, 7, 8, 9, 10] rfl ?_
                exact hj172 (B, wk, lk, bk) (by show lnI G S M k (nxA G S M (posL.getD k 0) (a - 1) ++ ntk (posL.getD k 0) a (min G a)) B wk lk bk; rw [show min G a = v - 1 by omega]; exact hln)
              · refine j_iload F dL_learn_111 0 rfl ?_
                refine j_iload F dL_learn_113 1 rfl ?_
                refine j_icmp_gt F (tgt := 172) dL_learn_115 (by decide) ⟨(by unfold rg; omega), (by unfold rg; omega)⟩ (fun c115 => ?_) (fun c115 => ?_)
                · refine J.loc [1, 2, 3, 4, 5, 6, 7, 8, 9, 10] rfl ?_
                  exact hj172 (B, wk, lk, bk) (by show lnI G S M k (nxA G S M (posL.getD k 0) (a - 1) ++ ntk (posL.getD k 0) a (min G a)) B wk lk bk; rw [show min G a = v - 1 by omega]; exact hln)
                · refine j_aload F dL_learn_118 4 rfl ?_
                  refine j_iload F dL_learn_120 1 rfl ?_
                  refine j_iload F dL_learn_122 0 rfl ?_
                  refine j_isub F dL_learn_124 ?_
                  refine j_dup2 F dL_learn_125 rfl rfl ?_
                  refine j_iald F 6 (n := 8) (f := (c1F (posL.getD k 0) a)) rfl (a - v) (by omega) (by omega) (by decide) dL_learn_126 ?_
                  refine j_iconst F dL_learn_127 ?_
                  refine j_iadd F dL_learn_128 ?_
                  refine j_iast F (ws' := [(qa, iR g 8 qF)] ++ ([(ta, iR g 64 tF)] ++ ([(ga, iR g 64 gF)] ++ ([(wa, iR g 64 (nup wF k wk))] ++ ([(la, iR g 64 (nup lF k lk))] ++ ([(ba, iR g 64 (nup bF k bk))] ++ ([(q2, iR g 8 (nup (c1F (posL.getD k 0) a) (a - v) ((c1F (posL.getD k 0) a) (a - v) + 1)))]))))))) 6 (n := 8) (f := (c1F (posL.getD k 0) a)) rfl (a - v) (by omega) (by omega) (by decide) rfl dL_learn_129 ?_
                  refine J.wsEq (ws2 := [(qa, iR g 8 qF)] ++ ([(ta, iR g 64 tF)] ++ ([(ga, iR g 64 gF)] ++ ([(wa, iR g 64 (nup wF k wk))] ++ ([(la, iR g 64 (nup lF k lk))] ++ ([(ba, iR g 64 (nup bF k bk))] ++ ([(q2, iR g 8 (tkF (posL.getD k 0) a v))]))))))) (rfl) ?_
                  refine j_lload F dL_learn_130 2 rfl ?_
                  refine j_aload F dL_learn_132 4 rfl ?_
                  obtain ⟨ok1, ok2⟩ := tk_ok hk45 (show a < 8 by omega) c85 v1 (show v ≤ a by omega)
                  obtain ⟨t1, t2, t3, t4⟩ := htab (tkN (posL.getD k 0) a v) ok1
                  obtain ⟨y1, y2, y3, y4⟩ := vC_b (G := G) (S := S) (M := M) (k := (tkN (posL.getD k 0) a v)) (by omega)
                  have hne : ¬ (tkN (posL.getD k 0) a v) = k := by omega
                  have hlb := lnI_b hln hk45
                  have eB := nup_n (k := k) wF wk hne
                  have eL := nup_n (k := k) lF lk hne
                  have eb := nup_n (k := k) bF bk hne
                  refine J.permL (ws2 := [(q2, iR g 8 (tkF (posL.getD k 0) a v))] ++ ([(qa, iR g 8 qF)] ++ ([(ta, iR g 64 tF)] ++ ([(ga, iR g 64 gF)] ++ ([(wa, iR g 64 (nup wF k wk))] ++ ([(la, iR g 64 (nup lF k lk))] ++ ([(ba, iR g 64 (nup bF k bk))]))))))) (pm_c (pm_s (pm_s (pm_s (pm_s (pm_s pm_e))))) (pm_c pm_0 (pm_c pm_0 (pm_c pm_0 (pm_c pm_0 (pm_c pm_0 (List.Perm.refl _))))))) ?_
                  refine j_callSx_I F (As := [.ref q2]) (wr := [(qa, iR g 8 qF)] ++ ([(ta, iR g 64 tF)] ++ ([(ga, iR g 64 gF)] ++ ([(wa, iR g 64 (nup wF k wk))] ++ ([(la, iR g 64 (nup lF k lk))] ++ ([(ba, iR g 64 (nup bF k bk))])))))) (st := [.long (lN B)]) (c_L_code hfl D g z q2 (tkF (posL.getD k 0) a v)) (idx := 20) gL_learn_L_code rfl  (by decide) (by decide) (le_ble rfl) ⟨by decide, by decide⟩ dL_learn_134 ?_
                  rintro r9 u9 rfl
                  rw [ok2]
                  refine J.wsEq (ws2 := [(q2, iR g 8 (tkF (posL.getD k 0) a v))] ++ ([(qa, iR g 8 qF)] ++ ([(ta, iR g 64 tF)] ++ ([(ga, iR g 64 gF)] ++ ([(wa, iR g 64 (nup wF k wk))] ++ ([(la, iR g 64 (nup lF k lk))] ++ ([(ba, iR g 64 (nup bF k bk))]))))))) (by first | rfl | simp only [List.append_assoc, List.append_nil, List.nil_append]) ?_
                  refine J.permL (ws2 := [(qa, iR g 8 qF)] ++ ([(ta, iR g 64 tF)] ++ ([(ga, iR g 64 gF)] ++ ([(wa, iR g 64 (nup wF k wk))] ++ ([(la, iR g 64 (nup lF k lk))] ++ ([(ba, iR g 64 (nup bF k bk))] ++ ([(q2, iR g 8 (tkF (posL.getD k 0) a v))]))))))) (pm_c (pm_s pm_0) (pm_c (pm_s pm_0) (pm_c (pm_s pm_0) (pm_c (pm_s pm_0) (pm_c (pm_s pm_0) (pm_c pm_e (List.Perm.refl _))))))) ?_
                  refine j_aload_n F dL_learn_137 rfl 6 rfl ?_
                  refine J.permL (ws2 := [(ta, iR g 64 tF)] ++ ([(qa, iR g 8 qF)] ++ ([(ga, iR g 64 gF)] ++ ([(wa, iR g 64 (nup wF k wk))] ++ ([(la, iR g 64 (nup lF k lk))] ++ ([(ba, iR g 64 (nup bF k bk))] ++ ([(q2, iR g 8 (tkF (posL.getD k 0) a v))]))))))) (pm_c (pm_s pm_0) (pm_c pm_0 (pm_c pm_0 (pm_c pm_0 (pm_c pm_0 (pm_c pm_0 (List.Perm.refl _))))))) ?_
                  refine j_callSx_I F (As := [.int (iI (((posL.getD (tkN (posL.getD k 0) a v) 0) : Nat) : Int)), .ref ta]) (wr := [(qa, iR g 8 qF)] ++ ([(ga, iR g 64 gF)] ++ ([(wa, iR g 64 (nup wF k wk))] ++ ([(la, iR g 64 (nup lF k lk))] ++ ([(ba, iR g 64 (nup bF k bk))] ++ ([(q2, iR g 8 (tkF (posL.getD k 0) a v))])))))) (st := [.long (lN B)]) (c_L_find hfl D g z ta tF (tkN (posL.getD k 0) a v) (by omega) hT) (idx := 24) gL_learn_L_find rfl  (by decide) (by decide) (le_ble rfl) ⟨by decide, by decide⟩ dL_learn_138 ?_
                  rintro r9 u9 rfl
                  refine J.wsEq (ws2 := [(ta, iR g 64 tF)] ++ ([(qa, iR g 8 qF)] ++ ([(ga, iR g 64 gF)] ++ ([(wa, iR g 64 (nup wF k wk))] ++ ([(la, iR g 64 (nup lF k lk))] ++ ([(ba, iR g 64 (nup bF k bk))] ++ ([(q2, iR g 8 (tkF (posL.getD k 0) a v))]))))))) (by first | rfl | simp only [List.append_assoc, List.append_nil, List.nil_append]) ?_
                  refine J.permL (ws2 := [(qa, iR g 8 qF)] ++ ([(ta, iR g 64 tF)] ++ ([(ga, iR g 64 gF)] ++ ([(wa, iR g 64 (nup wF k wk))] ++ ([(la, iR g 64 (nup lF k lk))] ++ ([(ba, iR g 64 (nup bF k bk))] ++ ([(q2, iR g 8 (tkF (posL.getD k 0) a v))]))))))) (pm_c (pm_s pm_0) (pm_c pm_0 (pm_c pm_0 (pm_c pm_0 (pm_c pm_0 (pm_c pm_0 (List.Perm.refl _))))))) ?_
                  refine j_iload F dL_learn_141 3 rfl ?_
                  refine j_aload_n F dL_learn_143 rfl 7 rfl ?_
                  refine j_aload_n F dL_learn_144 rfl 8 rfl ?_
                  refine j_aload F dL_learn_145 9 rfl ?_
                  refine j_aload F dL_learn_147 10 rfl ?_
                  refine J.permL (ws2 := [(ga, iR g 64 gF)] ++ ([(wa, iR g 64 (nup wF k wk))] ++ ([(la, iR g 64 (nup lF k lk))] ++ ([(ba, iR g 64 (nup bF k bk))] ++ ([(qa, iR g 8 qF)] ++ ([(ta, iR g 64 tF)] ++ ([(q2, iR g 8 (tkF (posL.getD k 0) a v))]))))))) (pm_c (pm_s (pm_s pm_0)) (pm_c (pm_s (pm_s pm_0)) (pm_c (pm_s (pm_s pm_0)) (pm_c (pm_s (pm_s pm_0)) (pm_c pm_0 (pm_c pm_0 (List.Perm.refl _))))))) ?_
                  refine J.wsEq (ws2 := ([(ga, iR g 64 gF)] ++ ([(wa, iR g 64 (nup wF k wk))] ++ ([(la, iR g 64 (nup lF k lk))] ++ ([(ba, iR g 64 (nup bF k bk))])))) ++ ([(qa, iR g 8 qF)] ++ ([(ta, iR g 64 tF)] ++ ([(q2, iR g 8 (tkF (posL.getD k 0) a v))])))) (by simp only [List.append_assoc]) ?_
                  refine j_callSx_L F (As := [.long (lN B), .int (iI (((tkN (posL.getD k 0) a v) : Nat) : Int)), .int (iI (k : Int)), .ref ga, .ref wa, .ref la, .ref ba]) (wr := [(qa, iR g 8 qF)] ++ ([(ta, iR g 64 tF)] ++ ([(q2, iR g 8 (tkF (posL.getD k 0) a v))]))) (st := []) (c_L_note hfl D g z ga wa la ba B (tkN (posL.getD k 0) a v) k (vC G S M (posL.getD (tkN (posL.getD k 0) a v) 0)).1 gF (nup wF k wk) (nup lF k lk) (nup bF k bk) (by omega) (by omega) t1 (by omega) (by rw [eB, t4]; omega) (by rw [eL, t2, nup_s]; omega) (by rw [eb, t3, nup_s]; omega)) (idx := 28) gL_learn_L_note rfl  (by decide) (by decide) (le_ble rfl) ⟨by decide, by decide⟩ dL_learn_149 ?_
                  rintro r9 u9 rfl
                  refine J.wsEq (ws2 := [(ga, iR g 64 gF)] ++ ([(wa, iR g 64 (nup (nup wF k wk) k (if (nup wF k wk) (tkN (posL.getD k 0) a v) = 0 then 1 else (nup wF k wk) k)))] ++ ([(la, iR g 64 (nup (nup lF k lk) k (if (nup lF k lk) k < (nup lF k lk) (tkN (posL.getD k 0) a v) + 1 then (nup lF k lk) (tkN (posL.getD k 0) a v) + 1 else (nup lF k lk) k)))] ++ ([(ba, iR g 64 (nup (nup bF k bk) k (if (nup bF k bk) (tkN (posL.getD k 0) a v) + 1 < (nup bF k bk) k then (nup bF k bk) (tkN (posL.getD k 0) a v) + 1 else (nup bF k bk) k)))] ++ ([(qa, iR g 8 qF)] ++ ([(ta, iR g 64 tF)] ++ ([(q2, iR g 8 (tkF (posL.getD k 0) a v))]))))))) (by first | rfl | simp only [List.append_assoc, List.append_nil, List.nil_append]) ?_
                  refine J.permL (ws2 := [(qa, iR g 8 qF)] ++ ([(ta, iR g 64 tF)] ++ ([(ga, iR g 64 gF)] ++ ([(wa, iR g 64 (nup (nup wF k wk) k (if (nup wF k wk) (tkN (posL.getD k 0) a v) = 0 then 1 else (nup wF k wk) k)))] ++ ([(la, iR g 64 (nup (nup lF k lk) k (if (nup lF k lk) k < (nup lF k lk) (tkN (posL.getD k 0) a v) + 1 then (nup lF k lk) (tkN (posL.getD k 0) a v) + 1 else (nup lF k lk) k)))] ++ ([(ba, iR g 64 (nup (nup bF k bk) k (if (nup bF k bk) (tkN (posL.getD k 0) a v) + 1 < (nup bF k bk) k then (nup bF k bk) (tkN (posL.getD k 0) a v) + 1 else (nup bF k bk) k)))] ++ ([(q2, iR g 8 (tkF (posL.getD k 0) a v))]))))))) (pm_c (pm_s (pm_s (pm_s (pm_s pm_0)))) (pm_c (pm_s (pm_s (pm_s (pm_s pm_0)))) (pm_c pm_0 (pm_c pm_0 (pm_c pm_0 (pm_c pm_0 (List.Perm.refl _))))))) ?_
                  refine J.wsEq (ws2 := [(qa, iR g 8 qF)] ++ ([(ta, iR g 64 tF)] ++ ([(ga, iR g 64 gF)] ++ ([(wa, iR g 64 (nup wF k (if (((vC G S M (posL.getD (tkN (posL.getD k 0) a v) 0)).2.1 : Nat) : Int) = 0 then 1 else wk)))] ++ ([(la, iR g 64 (nup lF k (if lk < (((vC G S M (posL.getD (tkN (posL.getD k 0) a v) 0)).2.2.1 : Nat) : Int) + 1 then (((vC G S M (posL.getD (tkN (posL.getD k 0) a v) 0)).2.2.1 : Nat) : Int) + 1 else lk)))] ++ ([(ba, iR g 64 (nup bF k (if (((vC G S M (posL.getD (tkN (posL.getD k 0) a v) 0)).2.2.2 : Nat) : Int) + 1 < bk then (((vC G S M (posL.getD (tkN (posL.getD k 0) a v) 0)).2.2.2 : Nat) : Int) + 1 else bk)))] ++ ([(q2, iR g 8 (tkF (posL.getD k 0) a v))]))))))) (by first | (rw [eB, eL, eb, t4, t2, t3, nup_s, nup_s, nup_s, nup2, nup2, nup2]) | (dsimp only; rw [eB, eL, eb, t4, t2, t3, nup_s, nup_s, nup_s, nup2, nup2, nup2])) ?_
                  refine j_lstore F (lv' := [(8, .long (lN (B ||| 2 ^ (vC G S M (posL.getD (tkN (posL.getD k 0) a v) 0)).1))), (11, .int (iI (v : Int))), (10, .int (iI (a : Int))), (7, .int (iI (k : Int))), (6, .ref q2), (0, .ref qa), (1, .ref ta), (2, .ref ga), (3, .ref wa), (4, .ref la), (5, .ref ba)]) dL_learn_152 (by decide) rfl ?_
                  refine j_aload F dL_learn_154 4 rfl ?_
                  refine j_iload F dL_learn_156 2 rfl ?_
                  refine j_iload F dL_learn_158 1 rfl ?_
                  refine j_isub F dL_learn_160 ?_
                  refine j_dup2 F dL_learn_161 rfl rfl ?_
                  refine j_iald F 6 (n := 8) (f := (tkF (posL.getD k 0) a v)) rfl (a - v) (by omega) (by omega) (by decide) dL_learn_162 ?_
                  refine j_iconst F dL_learn_163 ?_
                  refine j_isub F dL_learn_164 ?_
                  refine j_iast F (ws' := [(qa, iR g 8 qF)] ++ ([(ta, iR g 64 tF)] ++ ([(ga, iR g 64 gF)] ++ ([(wa, iR g 64 (nup wF k (if (((vC G S M (posL.getD (tkN (posL.getD k 0) a v) 0)).2.1 : Nat) : Int) = 0 then 1 else wk)))] ++ ([(la, iR g 64 (nup lF k (if lk < (((vC G S M (posL.getD (tkN (posL.getD k 0) a v) 0)).2.2.1 : Nat) : Int) + 1 then (((vC G S M (posL.getD (tkN (posL.getD k 0) a v) 0)).2.2.1 : Nat) : Int) + 1 else lk)))] ++ ([(ba, iR g 64 (nup bF k (if (((vC G S M (posL.getD (tkN (posL.getD k 0) a v) 0)).2.2.2 : Nat) : Int) + 1 < bk then (((vC G S M (posL.getD (tkN (posL.getD k 0) a v) 0)).2.2.2 : Nat) : Int) + 1 else bk)))] ++ ([(q2, iR g 8 (nup (tkF (posL.getD k 0) a v) (a - v) ((tkF (posL.getD k 0) a v) (a - v) - 1)))]))))))) 6 (n := 8) (f := (tkF (posL.getD k 0) a v)) rfl (a - v) (by omega) (by omega) (by decide) rfl dL_learn_165 ?_
                  refine J.wsEq (ws2 := [(qa, iR g 8 qF)] ++ ([(ta, iR g 64 tF)] ++ ([(ga, iR g 64 gF)] ++ ([(wa, iR g 64 (nup wF k (if (((vC G S M (posL.getD (tkN (posL.getD k 0) a v) 0)).2.1 : Nat) : Int) = 0 then 1 else wk)))] ++ ([(la, iR g 64 (nup lF k (if lk < (((vC G S M (posL.getD (tkN (posL.getD k 0) a v) 0)).2.2.1 : Nat) : Int) + 1 then (((vC G S M (posL.getD (tkN (posL.getD k 0) a v) 0)).2.2.1 : Nat) : Int) + 1 else lk)))] ++ ([(ba, iR g 64 (nup bF k (if (((vC G S M (posL.getD (tkN (posL.getD k 0) a v) 0)).2.2.2 : Nat) : Int) + 1 < bk then (((vC G S M (posL.getD (tkN (posL.getD k 0) a v) 0)).2.2.2 : Nat) : Int) + 1 else bk)))] ++ ([(q2, iR g 8 (c1F (posL.getD k 0) a))]))))))) (by first | (rw [tk_back]) | (dsimp only; rw [tk_back])) ?_
                  refine j_iinc F (lv' := [(11, .int (iI ((v : Int) + 1))), (8, .long (lN (B ||| 2 ^ (vC G S M (posL.getD (tkN (posL.getD k 0) a v) 0)).1))), (10, .int (iI (a : Int))), (7, .int (iI (k : Int))), (6, .ref q2), (0, .ref qa), (1, .ref ta), (2, .ref ga), (3, .ref wa), (4, .ref la), (5, .ref ba)]) dL_learn_166 1 rfl (by decide) rfl ?_
                  refine j_goto F (tgt := 103) dL_learn_169 (by decide) ?_
                  refine J.loc [0, 2, 1, 3, 4, 5, 6, 7, 8, 9, 10] rfl ?_
                  exact ih103 ((v + 1), (B ||| 2 ^ (vC G S M (posL.getD (tkN (posL.getD k 0) a v) 0)).1), (if (((vC G S M (posL.getD (tkN (posL.getD k 0) a v) 0)).2.1 : Nat) : Int) = 0 then 1 else wk), (if lk < (((vC G S M (posL.getD (tkN (posL.getD k 0) a v) 0)).2.2.1 : Nat) : Int) + 1 then (((vC G S M (posL.getD (tkN (posL.getD k 0) a v) 0)).2.2.1 : Nat) : Int) + 1 else lk), (if (((vC G S M (posL.getD (tkN (posL.getD k 0) a v) 0)).2.2.2 : Nat) : Int) + 1 < bk then (((vC G S M (posL.getD (tkN (posL.getD k 0) a v) 0)).2.2.2 : Nat) : Int) + 1 else bk)) (by show (1 ≤ (v + 1) ∧ (v + 1) ≤ min G a + 1) ∧ lnI G S M k (nxA G S M (posL.getD k 0) (a - 1) ++ ntk (posL.getD k 0) a ((v + 1) - 1)) (B ||| 2 ^ (vC G S M (posL.getD (tkN (posL.getD k 0) a v) 0)).1) (if (((vC G S M (posL.getD (tkN (posL.getD k 0) a v) 0)).2.1 : Nat) : Int) = 0 then 1 else wk) (if lk < (((vC G S M (posL.getD (tkN (posL.getD k 0) a v) 0)).2.2.1 : Nat) : Int) + 1 then (((vC G S M (posL.getD (tkN (posL.getD k 0) a v) 0)).2.2.1 : Nat) : Int) + 1 else lk) (if (((vC G S M (posL.getD (tkN (posL.getD k 0) a v) 0)).2.2.2 : Nat) : Int) + 1 < bk then (((vC G S M (posL.getD (tkN (posL.getD k 0) a v) 0)).2.2.2 : Nat) : Int) + 1 else bk); exact ⟨by omega, by rw [ntk_s v1]; simpa only [List.append_assoc] using lnI_s hln hk45 ok1⟩) (by show min G a + 1 - (v + 1) < min G a + 1 - v; omega)
          · refine j_goto F (tgt := 376) dL_learn_88 (by decide) ?_
            refine j_iinc F (lv' := [(10, .int (iI ((a : Int) + 1))), (8, .long (lN B)), (7, .int (iI (k : Int))), (6, .ref q2), (0, .ref qa), (1, .ref ta), (2, .ref ga), (3, .ref wa), (4, .ref la), (5, .ref ba)]) dL_learn_376 0 rfl (by decide) rfl ?_
            refine j_goto F (tgt := 73) dL_learn_379 (by decide) ?_
            refine J.loc [0, 1, 2, 3, 4, 5, 6, 7, 8, 9] rfl ?_
            exact ih73 ((a + 1), B, wk, lk, bk) (by show (1 ≤ (a + 1) ∧ (a + 1) ≤ 8) ∧ lnI G S M k (nxA G S M (posL.getD k 0) ((a + 1) - 1)) B wk lk bk; first | exact ⟨by omega, by rw [nxA_s a1, if_pos c85, List.append_nil]; exact hln⟩ | exact ⟨by omega, by rw [nxA_s a1, if_neg c85]; exact hln⟩) (by show 8 - (a + 1) < 8 - a; omega)
      · intro hj70
        refine j_aload F dL_learn_52 8 rfl ?_
        refine j_iload F dL_learn_54 1 rfl ?_
        refine j_aload_n F dL_learn_56 rfl 4 rfl ?_
        refine j_iload F dL_learn_57 1 rfl ?_
        refine j_iald F 1 (n := 64) (f := tF) rfl k (rfl) (by omega) (by decide) dL_learn_59 ?_
        refine J.top (congrArg iI (show tF k = (((posL.getD k 0) : Nat) : Int) from hT.1 k hk45)) ?_
        refine j_if_ne F (tgt := 67) dL_learn_60 (by decide) (by unfold rg; omega) (fun c60 => ?_) (fun c60 => ?_)
        · refine j_bipush F dL_learn_67 (by decide) ?_
          refine J.top (congrArg iI (show 99 = (if k = 0 then (0 : Int) else 99) from by rw [if_neg (by omega)])) ?_
          refine j_iast F (ws' := [(qa, iR g 8 qF)] ++ ([(ta, iR g 64 tF)] ++ ([(ga, iR g 64 gF)] ++ ([(wa, iR g 64 (nup wF k (if k = 0 then (1 : Int) else 0)))] ++ ([(la, iR g 64 (nup lF k 0))] ++ ([(ba, iR g 64 (nup bF k (if k = 0 then (0 : Int) else 99)))] ++ ([(q2, iR g 8 (cI (posL.getD k 0)))]))))))) 5 (n := 64) (f := bF) rfl k (rfl) (by omega) (by decide) rfl dL_learn_69 ?_
          refine J.loc [0, 1, 2, 3, 4, 5, 6, 7, 8] rfl ?_
          exact hj70 () (by show True; trivial)
        · refine j_iconst F dL_learn_63 ?_
          refine J.top (congrArg iI (show 0 = (if k = 0 then (0 : Int) else 99) from by rw [if_pos (by omega)])) ?_
          refine j_goto F (tgt := 69) dL_learn_64 (by decide) ?_
          refine j_iast F (ws' := [(qa, iR g 8 qF)] ++ ([(ta, iR g 64 tF)] ++ ([(ga, iR g 64 gF)] ++ ([(wa, iR g 64 (nup wF k (if k = 0 then (1 : Int) else 0)))] ++ ([(la, iR g 64 (nup lF k 0))] ++ ([(ba, iR g 64 (nup bF k (if k = 0 then (0 : Int) else 99)))] ++ ([(q2, iR g 8 (cI (posL.getD k 0)))]))))))) 5 (n := 64) (f := bF) rfl k (rfl) (by omega) (by decide) rfl dL_learn_69 ?_
          refine J.loc [0, 1, 2, 3, 4, 5, 6, 7, 8] rfl ?_
          exact hj70 () (by show True; trivial)
    · intro hj46
      refine j_aload_n F dL_learn_30 rfl 6 rfl ?_
      refine j_iload F dL_learn_31 1 rfl ?_
      refine j_aload_n F dL_learn_33 rfl 4 rfl ?_
      refine j_iload F dL_learn_34 1 rfl ?_
      refine j_iald F 1 (n := 64) (f := tF) rfl k (rfl) (by omega) (by decide) dL_learn_36 ?_
      refine J.top (congrArg iI (show tF k = (((posL.getD k 0) : Nat) : Int) from hT.1 k hk45)) ?_
      refine j_if_ne F (tgt := 44) dL_learn_37 (by decide) (by unfold rg; omega) (fun c37 => ?_) (fun c37 => ?_)
      · refine j_iconst F dL_learn_44 ?_
        refine J.top (congrArg iI (show 0 = (if k = 0 then (1 : Int) else 0) from by rw [if_neg (by omega)])) ?_
        refine j_iast F (ws' := [(qa, iR g 8 qF)] ++ ([(ta, iR g 64 tF)] ++ ([(ga, iR g 64 gF)] ++ ([(wa, iR g 64 (nup wF k (if k = 0 then (1 : Int) else 0)))] ++ ([(la, iR g 64 lF)] ++ ([(ba, iR g 64 bF)] ++ ([(q2, iR g 8 (cI (posL.getD k 0)))]))))))) 3 (n := 64) (f := wF) rfl k (rfl) (by omega) (by decide) rfl dL_learn_45 ?_
        refine J.loc [0, 1, 2, 3, 4, 5, 6, 7, 8] rfl ?_
        exact hj46 () (by show True; trivial)
      · refine j_iconst F dL_learn_40 ?_
        refine J.top (congrArg iI (show 1 = (if k = 0 then (1 : Int) else 0) from by rw [if_pos (by omega)])) ?_
        refine j_goto F (tgt := 45) dL_learn_41 (by decide) ?_
        refine j_iast F (ws' := [(qa, iR g 8 qF)] ++ ([(ta, iR g 64 tF)] ++ ([(ga, iR g 64 gF)] ++ ([(wa, iR g 64 (nup wF k (if k = 0 then (1 : Int) else 0)))] ++ ([(la, iR g 64 lF)] ++ ([(ba, iR g 64 bF)] ++ ([(q2, iR g 8 (cI (posL.getD k 0)))]))))))) 3 (n := 64) (f := wF) rfl k (rfl) (by omega) (by decide) rfl dL_learn_45 ?_
        refine J.loc [0, 1, 2, 3, 4, 5, 6, 7, 8] rfl ?_
        exact hj46 () (by show True; trivial)

end LLEARN
