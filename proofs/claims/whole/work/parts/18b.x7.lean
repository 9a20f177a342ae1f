/-! ===== the model: the heaps behind a move ===== -/
section X7B
def goI (L : List Nat) (k q t h : Nat) : List Nat :=
  if h = q then (if k = 0 then (if L.getD q 0 - t = 0 then [] else [L.getD q 0 - t]) else if k = 1 then [t, L.getD q 0 - t] else [L.getD q 0 + L.getD t 0 - 1])
  else if k = 2 ∧ h = t then [] else [L.getD h 0]
def goP (L : List Nat) (k q t : Nat) : Nat → List Nat
  | 0 => []
  | h + 1 => goP L k q t h ++ goI L k q t h
theorem len_take {L : List Nat} {h : Nat} (hh : h ≤ L.length) : (L.take h).length = h := by rw [List.length_take]; omega
theorem set1 (a : List Nat) (x v q : Nat) : (a ++ [x]).set q v = if q < a.length then a.set q v ++ [x] else if q = a.length then a ++ [v] else a ++ [x] := by
  rw [List.set_append]
  by_cases h : q < a.length
  · rw [if_pos h, if_pos h]
  · rw [if_neg h, if_neg h]
    by_cases h2 : q = a.length
    · rw [if_pos h2, h2, Nat.sub_self]; rfl
    · rw [if_neg h2]
      obtain ⟨n, e⟩ : ∃ n, q - a.length = n + 1 := ⟨q - a.length - 1, by omega⟩
      rw [e]; rfl
theorem erase1 (a : List Nat) (x q : Nat) : (a ++ [x]).eraseIdx q = if q < a.length then a.eraseIdx q ++ [x] else if q = a.length then a else a ++ [x] := by
  rw [List.eraseIdx_append]
  by_cases h : q < a.length
  · rw [if_pos h, if_pos h]
  · rw [if_neg h, if_neg h]
    by_cases h2 : q = a.length
    · rw [if_pos h2, h2, Nat.sub_self]
      show a ++ [] = a
      rw [List.append_nil]
    · rw [if_neg h2]
      obtain ⟨n, e⟩ : ∃ n, q - a.length = n + 1 := ⟨q - a.length - 1, by omega⟩
      rw [e]; rfl
theorem set_out {a : List Nat} {q : Nat} (v : Nat) (h : a.length ≤ q) : a.set q v = a := List.set_eq_of_length_le h
theorem erase_out {a : List Nat} {q : Nat} (h : a.length ≤ q) : a.eraseIdx q = a := List.eraseIdx_of_length_le h
theorem spA_app (t u : Nat) : ∀ (a : List Nat) (x q : Nat), spA (a ++ [x]) q t u = if q < a.length then spA a q t u ++ [x] else if q = a.length then a ++ [t, u] else a ++ [x]
  | [], x, 0 => rfl
  | [], x, q + 1 => by
    rw [if_neg (by exact Nat.not_lt_zero _), if_neg (by show ¬ q + 1 = 0; omega)]
    rfl
  | y :: a, x, 0 => by
    rw [if_pos (show 0 < (y :: a).length from Nat.succ_pos _)]
    rfl
  | y :: a, x, q + 1 => by
    have ih := spA_app t u a x q
    show y :: spA (a ++ [x]) q t u = _
    rw [ih]
    by_cases h : q < a.length
    · rw [if_pos h, if_pos (show q + 1 < (y :: a).length from Nat.succ_lt_succ h)]; rfl
    · rw [if_neg h, if_neg (show ¬ q + 1 < (y :: a).length from fun z => h (Nat.lt_of_succ_lt_succ z))]
      by_cases h2 : q = a.length
      · rw [if_pos h2, if_pos (show q + 1 = (y :: a).length from by rw [h2]; rfl)]; rfl
      · rw [if_neg h2, if_neg (show ¬ q + 1 = (y :: a).length from fun z => h2 (Nat.succ.inj z))]; rfl
theorem spA_out (t u : Nat) : ∀ {a : List Nat} {q : Nat}, a.length ≤ q → spA a q t u = a
  | [], _, _ => rfl
  | x :: a, 0, h => absurd h (Nat.not_succ_le_zero _)
  | x :: a, q + 1, h => by
    show x :: spA a q t u = x :: a
    rw [spA_out t u (Nat.le_of_succ_le_succ h)]
theorem goP_ap {L : List Nat} {k q t : Nat} (hk : k = 0 ∨ k = 1 ∨ (k = 2 ∧ q < t ∧ t < L.length)) : goP L k q t L.length = apL L k q t := by
  rcases hk with rfl | rfl | ⟨rfl, h1, h2⟩
  · rw [apL_0]
    by_cases z : L.getD q 0 - t = 0
    · rw [if_pos z]
      have key : ∀ h, h ≤ L.length → goP L 0 q t h = (L.take h).eraseIdx q := by
        intro h
        induction h with
        | zero => intro _; rfl
        | succ h ih =>
          intro hh
          have el := len_take (L := L) (h := h) (by omega)
          rw [goP, ih (by omega), take_s 0 (show h < L.length by omega), erase1, el, goI]
          by_cases w : h = q
          · rw [if_pos w, if_pos rfl, if_pos z, if_neg (by omega), if_pos w.symm, List.append_nil, erase_out (by omega)]
          · rw [if_neg w, if_neg (fun y => absurd y.1 (by decide))]
            by_cases w2 : q < h
            · rw [if_pos w2]
            · rw [if_neg w2, if_neg (fun y => w y.symm), erase_out (by omega)]
      have e := key L.length (Nat.le_refl _)
      rw [List.take_length] at e
      exact e
    · rw [if_neg z]
      have key : ∀ h, h ≤ L.length → goP L 0 q t h = (L.take h).set q (L.getD q 0 - t) := by
        intro h
        induction h with
        | zero => intro _; rfl
        | succ h ih =>
          intro hh
          have el := len_take (L := L) (h := h) (by omega)
          rw [goP, ih (by omega), take_s 0 (show h < L.length by omega), set1, el, goI]
          by_cases w : h = q
          · rw [if_pos w, if_pos rfl, if_neg z, if_neg (by omega), if_pos w.symm, set_out _ (by omega)]
          · rw [if_neg w, if_neg (fun y => absurd y.1 (by decide))]
            by_cases w2 : q < h
            · rw [if_pos w2]
            · rw [if_neg w2, if_neg (fun y => w y.symm), set_out _ (by omega)]
      have e := key L.length (Nat.le_refl _)
      rw [List.take_length] at e
      exact e
  · rw [apL_1]
    have key : ∀ h, h ≤ L.length → goP L 1 q t h = spA (L.take h) q t (L.getD q 0 - t) := by
      intro h
      induction h with
      | zero => intro _; rfl
      | succ h ih =>
        intro hh
        have el := len_take (L := L) (h := h) (by omega)
        rw [goP, ih (by omega), take_s 0 (show h < L.length by omega), spA_app, el, goI]
        by_cases w : h = q
        · rw [if_pos w, if_neg (by decide), if_pos rfl, if_neg (by omega), if_pos w.symm, spA_out _ _ (by omega)]
        · rw [if_neg w, if_neg (fun y => absurd y.1 (by decide))]
          by_cases w2 : q < h
          · rw [if_pos w2]
          · rw [if_neg w2, if_neg (fun y => w y.symm), spA_out _ _ (by omega)]
    have e := key L.length (Nat.le_refl _)
    rw [List.take_length] at e
    exact e
  · rw [apL_2, Nat.min_eq_left (by omega), Nat.max_eq_right (by omega)]
    have key : ∀ h, h ≤ L.length → goP L 2 q t h = ((L.take h).set q (L.getD q 0 + L.getD t 0 - 1)).eraseIdx t := by
      intro h
      induction h with
      | zero => intro _; rfl
      | succ h ih =>
        intro hh
        have el := len_take (L := L) (h := h) (by omega)
        have el2 : ((L.take h).set q (L.getD q 0 + L.getD t 0 - 1)).length = h := by rw [List.length_set, el]
        rw [goP, ih (by omega), take_s 0 (show h < L.length by omega), set1, el, goI]
        by_cases w : h = q
        · rw [if_pos w, if_neg (by decide), if_neg (by decide), if_neg (show ¬ q < h by omega), if_pos w.symm, erase1, el, if_neg (by omega), if_neg (by omega), set_out _ (by omega), erase_out (by omega)]
        · rw [if_neg w]
          by_cases w2 : q < h
          · rw [if_pos w2, erase1, el2]
            by_cases w3 : h = t
            · rw [if_pos ⟨rfl, w3⟩, if_neg (by omega), if_pos w3.symm, List.append_nil, erase_out (by omega)]
            · rw [if_neg (fun y => w3 y.2)]
              by_cases w4 : t < h
              · rw [if_pos w4]
              · rw [if_neg w4, if_neg (fun y => w3 y.symm), erase_out (by omega)]
          · rw [if_neg w2, if_neg (show ¬ q = h from fun y => w y.symm), if_neg (show ¬ (2 = 2 ∧ h = t) by omega), erase1, el, if_neg (by omega), if_neg (by omega), set_out _ (by omega), erase_out (by omega)]
    have e := key L.length (Nat.le_refl _)
    rw [List.take_length] at e
    exact e
theorem goI_len (L : List Nat) (k q t h : Nat) : (goI L k q t h).length ≤ if h = q then 2 else 1 := by
  unfold goI
  by_cases w : h = q
  · rw [if_pos w, if_pos w]
    split
    · split
      · exact Nat.zero_le _
      · exact Nat.le_succ _
    · split
      · exact Nat.le_refl _
      · exact Nat.le_succ _
  · rw [if_neg w, if_neg w]
    split
    · exact Nat.zero_le _
    · exact Nat.le_refl _
theorem goP_len (L : List Nat) (k q t : Nat) : ∀ h, (goP L k q t h).length ≤ if q < h then h + 1 else h
  | 0 => Nat.zero_le _
  | h + 1 => by
    have ih := goP_len L k q t h
    have h2 := goI_len L k q t h
    rw [goP, List.length_append]
    by_cases w : q < h
    · rw [if_pos w] at ih
      rw [if_neg (by omega)] at h2
      rw [if_pos (by omega)]; omega
    · rw [if_neg w] at ih
      by_cases w2 : h = q
      · rw [if_pos w2] at h2
        rw [if_pos (by omega)]; omega
      · rw [if_neg w2] at h2
        rw [if_neg (by omega)]; omega
theorem rep_snoc {f : NF} {L : List Nat} (hr : rep f L) (v : Nat) : rep (nup f L.length (v : Int)) (L ++ [v]) := by
  intro i hi
  rw [List.length_append] at hi
  by_cases q : i = L.length
  · rw [q, nup_s, getD_app_r]
  · have q2 : i < L.length := by simp only [List.length_cons, List.length_nil] at hi; omega
    rw [nup_n _ _ q, getD_app_l q2]
    exact hr i q2

def goM (L : List Nat) (k q t : Nat) : Prop := q < L.length ∧ ((k = 0 ∧ 1 ≤ t ∧ t ≤ L.getD q 0) ∨ (k = 1 ∧ 1 ≤ t ∧ t < L.getD q 0) ∨ (k = 2 ∧ q < t ∧ t < L.length))
theorem goM_k {L : List Nat} {k q t : Nat} (h : goM L k q t) : k = 0 ∨ k = 1 ∨ (k = 2 ∧ q < t ∧ t < L.length) := by
  rcases h.2 with h | h | h
  · exact Or.inl h.1
  · exact Or.inr (Or.inl h.1)
  · exact Or.inr (Or.inr h)
theorem goM_of {g sp mg : Nat} {L : List Nat} {m : Mv} (hL : okH L) (h : okM g sp mg L m) : goM L m.1 m.2.1 m.2.2 := by
  obtain ⟨hq, h⟩ := h
  have hx := okH_at hL hq
  refine ⟨hq, ?_⟩
  rcases h with h | h | h
  · exact Or.inl ⟨h.1, h.2.1, h.2.2.1⟩
  · exact Or.inr (Or.inl ⟨h.1, h.2.2.1, by omega⟩)
  · exact Or.inr (Or.inr ⟨h.1, h.2.2.1, h.2.2.2⟩)
theorem goP_len13 {L : List Nat} {k q t h : Nat} (hl : L.length ≤ 12) (hh : h < L.length) : (goP L k q t h).length ≤ 12 ∧ (h = q → (goP L k q t h).length ≤ 11) := by
  have e := goP_len L k q t h
  constructor
  · by_cases w : q < h
    · rw [if_pos w] at e; omega
    · rw [if_neg w] at e; omega
  · intro w
    rw [if_neg (by omega)] at e; omega

set_option maxHeartbeats 4000000 in
set_option maxRecDepth 100000 in
theorem c_X7_goes {l : Launch} (hfl : l.flags = flags0) (D : va_G) (g : GT) (z : ZT) (ad : Nat → Nat) (th : Int) (cC : CT) (cT : TT) (cL : LT) (cP : PT) (L : List Nat) (k q t : Nat) (hL : okH L) (hm : goM L k q t) (hr : rep cL.1 L) : CV l yX7_goes wsX7_goes 1 25 3 D g z [.ref (ad 0), .int (iI (k : Int)), .int (iI (q : Int)), .int (iI (t : Int))] (moC g ad th cC cT (cL.1, ((L.length : Nat) : Int), cL.2.2.1, cL.2.2.2.1, cL.2.2.2.2.1, cL.2.2.2.2.2.1, cL.2.2.2.2.2.2.1, cL.2.2.2.2.2.2.2) cP) (fun (u9 : NF) => rep u9 (apL L k q t)) (fun (u9 : NF) => moC g ad th cC cT (cL.1, ((L.length : Nat) : Int), cL.2.2.1, cL.2.2.2.1, cL.2.2.2.2.1, cL.2.2.2.2.2.1, u9, (((apL L k q t).length : Nat) : Int)) cP) 0 0 := by
  refine CV_of hfl (own := RX7) ⟨0, 0, 0, 0⟩ 1 25 3 (by decide +kernel) rfl rfl ⟨by decide, by decide, by decide +kernel⟩ ⟨by decide, by decide⟩ (le_ble rfl) ?_
  intro p e s m below meth c A Q F hin ret
  change J p l e _ s m _ below meth c A D _ Q 0 0 (moC g ad th cC cT (cL.1, ((L.length : Nat) : Int), cL.2.2.1, cL.2.2.2.1, cL.2.2.2.2.1, cL.2.2.2.2.2.1, cL.2.2.2.2.2.2.1, cL.2.2.2.2.2.2.2) cP) [(0, .ref (ad 0)), (1, .int (iI (k : Int))), (2, .int (iI (q : Int))), (3, .int (iI (t : Int)))] [] 0
  have hlen := okH_len hL
  have hq9 : q < L.length := hm.1
  have hkt : k < 3 ∧ t ≤ 12 := by have hxq := okH_at hL hm.1; rcases hm.2 with h9 | h9 | h9 <;> omega
  refine j_aload_n F dX7_goes_0 rfl 0 rfl ?_
  refine j_iconst F dX7_goes_1 ?_
  refine j_putf F (ref := "CairnGameModel") (C := RX7) (T := TX7) (N := 27) (ci := 7) (index := 70) (ty := .int) (ws' := moC g ad th cC cT (cL.1, ((L.length : Nat) : Int), cL.2.2.1, cL.2.2.2.1, cL.2.2.2.2.1, cL.2.2.2.2.2.1, cL.2.2.2.2.2.2.1, 0) cP) (fun w h => (List.mem_cons_of_mem _ (List.mem_append_right _ h))) tyX7 tyX7_ok nmX7 0 rfl rfl 21 (by decide) (List.mem_cons_of_mem _ (List.mem_append_left _ (List.mem_of_getElem? (i := 0) rfl))) rfl rfl rfl rfl rfl (lt_ble rfl) rfl dX7_goes_2 ?_
  refine J.wsEq (ws2 := moC g ad th cC cT (cL.1, ((L.length : Nat) : Int), cL.2.2.1, cL.2.2.2.1, cL.2.2.2.2.1, cL.2.2.2.2.2.1, cL.2.2.2.2.2.2.1, (((goP L k q t 0).length : Nat) : Int)) cP) (rfl) ?_
  refine j_iconst F dX7_goes_5 ?_
  refine j_istore F (lv' := [(4, .int (iI 0)), (0, .ref (ad 0)), (1, .int (iI (k : Int))), (2, .int (iI (q : Int))), (3, .int (iI (t : Int)))]) dX7_goes_6 (by decide) rfl ?_
  refine J.loc [0, 1, 2, 3, 4] rfl ?_
  refine J_loop (σ := Nat × NF) (fun x9 : Nat × NF => match x9 with | (h, f1) => h ≤ L.length ∧ rep f1 (goP L k q t h)) (fun x9 : Nat × NF => match x9 with | (h, f1) => L.length - h) (fun x9 : Nat × NF => match x9 with | (h, f1) => moC g ad th cC cT (cL.1, ((L.length : Nat) : Int), cL.2.2.1, cL.2.2.2.1, cL.2.2.2.2.1, cL.2.2.2.2.2.1, f1, (((goP L k q t h).length : Nat) : Int)) cP) (fun x9 : Nat × NF => match x9 with | (h, f1) => [(4, .int (iI (h : Int))), (0, .ref (ad 0)), (1, .int (iI (k : Int))), (2, .int (iI (q : Int))), (3, .int (iI (t : Int)))]) (0, cL.2.2.2.2.2.2.1) (by show 0 ≤ L.length ∧ rep cL.2.2.2.2.2.2.1 (goP L k q t 0); exact ⟨Nat.zero_le _, fun i hi => absurd hi (Nat.not_lt_zero i)⟩) ?_
  rintro ⟨h, f1⟩ hI ih8
  have hI : h ≤ L.length ∧ rep f1 (goP L k q t h) := hI
  obtain ⟨i1, i2⟩ := hI
  refine j_iload F dX7_goes_8 0 rfl ?_
  refine j_aload_n F dX7_goes_10 rfl 1 rfl ?_
  refine j_getf F (ref := "CairnGameModel") (C := RX7) (T := TX7) (N := 27) (ci := 7) (index := 79) (v := .int (iI ((L.length : Nat) : Int))) (fun w h => (List.mem_cons_of_mem _ (List.mem_append_right _ h))) 0 rfl rfl 15 (by decide) (List.mem_cons_of_mem _ (List.mem_append_left _ (List.mem_of_getElem? (i := 1) rfl))) rfl rfl dX7_goes_11 ?_
  refine j_icmp_ge F (tgt := 147) dX7_goes_14 (by decide) ⟨(by unfold rg; omega), (by unfold rg; omega)⟩ (fun c14 => ?_) (fun c14 => ?_)
  · have eh : h = L.length := by omega
    have eA : goP L k q t h = apL L k q t := by rw [eh]; exact goP_ap (goM_k hm)
    refine J.wsEq (ws2 := moC g ad th cC cT (cL.1, ((L.length : Nat) : Int), cL.2.2.1, cL.2.2.2.1, cL.2.2.2.2.1, cL.2.2.2.2.2.1, f1, (((apL L k q t).length : Nat) : Int)) cP) (by (try dsimp only); rw [eA]) ?_
    exact ret f1 0 0 _ _ dX7_goes_147 (by decide) (by decide) (by rw [← eA]; exact i2)
  · have hh : h < L.length := by omega
    have hx := okH_at hL hh
    have hfi := hr h hh
    have hg13 := goP_len13 (k := k) (q := q) (t := t) hlen hh
    have hxq := okH_at hL hm.1
    refine j_aload_n F dX7_goes_17 rfl 1 rfl ?_
    refine j_getf F (ref := "CairnGameModel") (C := RX7) (T := TX7) (N := 27) (ci := 7) (index := 37) (v := .ref (ad 14)) (fun w h => (List.mem_cons_of_mem _ (List.mem_append_right _ h))) 0 rfl rfl 14 (by decide) (List.mem_cons_of_mem _ (List.mem_append_left _ (List.mem_of_getElem? (i := 2) rfl))) rfl rfl dX7_goes_18 ?_
    refine j_iload F dX7_goes_21 0 rfl ?_
    refine j_iald F 10 (n := 12) (f := cL.1) rfl h (rfl) (by omega) (by decide) dX7_goes_23 ?_
    refine J.top (congrArg iI (show cL.1 h = (((L.getD h 0) : Nat) : Int) from hfi)) ?_
    refine j_istore F (lv' := [(5, .int (iI (((L.getD h 0) : Nat) : Int))), (4, .int (iI (h : Int))), (0, .ref (ad 0)), (1, .int (iI (k : Int))), (2, .int (iI (q : Int))), (3, .int (iI (t : Int)))]) dX7_goes_24 (by decide) rfl ?_
    refine j_iload F dX7_goes_26 1 rfl ?_
    refine j_iload_n F dX7_goes_28 rfl 4 rfl ?_
    refine j_icmp_ne F (tgt := 65) dX7_goes_29 (by decide) ⟨(by unfold rg; omega), (by unfold rg; omega)⟩ (fun c29 => ?_) (fun c29 => ?_)
    · refine j_iload F dX7_goes_65 0 rfl ?_
      refine j_if_le F (tgt := 102) dX7_goes_67 (by decide) (by unfold rg; omega) (fun h9 => by exfalso; omega) (fun c67 => ?_)
      refine j_iload_n F dX7_goes_70 rfl 3 rfl ?_
      refine j_iconst F dX7_goes_71 ?_
      refine j_icmp_ne F (tgt := 81) dX7_goes_72 (by decide) ⟨(by unfold rg; omega), (by unfold rg; omega)⟩ (fun c72 => ?_) (fun c72 => ?_)
      · refine j_aload_n F dX7_goes_81 rfl 2 rfl ?_
        refine j_getf F (ref := "CairnGameModel") (C := RX7) (T := TX7) (N := 27) (ci := 7) (index := 49) (v := .ref (ad 20)) (fun w h => (List.mem_cons_of_mem _ (List.mem_append_right _ h))) 0 rfl rfl 20 (by decide) (List.mem_cons_of_mem _ (List.mem_append_left _ (List.mem_of_getElem? (i := 3) rfl))) rfl rfl dX7_goes_82 ?_
        refine j_aload_n F dX7_goes_85 rfl 2 rfl ?_
        refine j_getf F (ref := "CairnGameModel") (C := RX7) (T := TX7) (N := 27) (ci := 7) (index := 70) (v := .int (iI (((goP L k q t h).length : Nat) : Int))) (fun w h => (List.mem_cons_of_mem _ (List.mem_append_right _ h))) 0 rfl rfl 21 (by decide) (List.mem_cons_of_mem _ (List.mem_append_left _ (List.mem_of_getElem? (i := 0) rfl))) rfl rfl dX7_goes_86 ?_
        refine j_iload F dX7_goes_89 0 rfl ?_
        refine j_iast F (ws' := moC g ad th cC cT (cL.1, ((L.length : Nat) : Int), cL.2.2.1, cL.2.2.2.1, cL.2.2.2.2.1, cL.2.2.2.2.2.1, nup f1 ((goP L k q t h).length) (((L.getD h 0) : Nat) : Int), (((goP L k q t h).length : Nat) : Int)) cP) 14 (n := 13) (f := f1) rfl ((goP L k q t h).length) (by omega) (by omega) (by decide) rfl dX7_goes_91 ?_
        refine j_aload_n F dX7_goes_92 rfl 2 rfl ?_
        refine j_dup F dX7_goes_93 rfl ?_
        refine j_getf F (ref := "CairnGameModel") (C := RX7) (T := TX7) (N := 27) (ci := 7) (index := 70) (v := .int (iI (((goP L k q t h).length : Nat) : Int))) (fun w h => (List.mem_cons_of_mem _ (List.mem_append_right _ h))) 0 rfl rfl 21 (by decide) (List.mem_cons_of_mem _ (List.mem_append_left _ (List.mem_of_getElem? (i := 0) rfl))) rfl rfl dX7_goes_94 ?_
        refine j_iconst F dX7_goes_97 ?_
        refine j_iadd F dX7_goes_98 ?_
        refine j_putf F (ref := "CairnGameModel") (C := RX7) (T := TX7) (N := 27) (ci := 7) (index := 70) (ty := .int) (ws' := moC g ad th cC cT (cL.1, ((L.length : Nat) : Int), cL.2.2.1, cL.2.2.2.1, cL.2.2.2.2.1, cL.2.2.2.2.2.1, nup f1 ((goP L k q t h).length) (((L.getD h 0) : Nat) : Int), ((((goP L k q t h).length : Nat) : Int) + 1)) cP) (fun w h => (List.mem_cons_of_mem _ (List.mem_append_right _ h))) tyX7 tyX7_ok nmX7 0 rfl rfl 21 (by decide) (List.mem_cons_of_mem _ (List.mem_append_left _ (List.mem_of_getElem? (i := 0) rfl))) rfl rfl rfl rfl rfl (lt_ble rfl) rfl dX7_goes_99 ?_
        refine j_iload F dX7_goes_102 1 rfl ?_
        refine j_iload_n F dX7_goes_104 rfl 4 rfl ?_
        refine j_icmp_ne F (tgt := 141) dX7_goes_105 (by decide) ⟨(by unfold rg; omega), (by unfold rg; omega)⟩ (fun c105 => ?_) (fun h9 => by exfalso; omega)
        have eI : goI L k q t h = [L.getD h 0] := by unfold goI; rw [if_neg (by omega), if_neg (by omega)]
        have eE : goP L k q t (h + 1) = goP L k q t h ++ [L.getD h 0] := by show goP L k q t h ++ goI L k q t h = _; rw [eI]
        have hE : rep (nup f1 (goP L k q t h).length ((L.getD h 0 : Nat) : Int)) (goP L k q t (h + 1)) := by rw [eE]; exact (rep_snoc i2 (L.getD h 0))
        refine J.wsEq (ws2 := moC g ad th cC cT (cL.1, ((L.length : Nat) : Int), cL.2.2.1, cL.2.2.2.1, cL.2.2.2.2.1, cL.2.2.2.2.2.1, nup f1 ((goP L k q t h).length) (((L.getD h 0) : Nat) : Int), (((goP L k q t (h + 1)).length : Nat) : Int)) cP) (by (try dsimp only); rw [eE, List.length_append]; rfl) ?_
        refine j_iinc F (lv' := [(4, .int (iI ((h : Int) + 1))), (5, .int (iI (((L.getD h 0) : Nat) : Int))), (0, .ref (ad 0)), (1, .int (iI (k : Int))), (2, .int (iI (q : Int))), (3, .int (iI (t : Int)))]) dX7_goes_141 1 rfl (by decide) rfl ?_
        refine j_goto F (tgt := 8) dX7_goes_144 (by decide) ?_
        refine J.loc [0, 2, 3, 4, 5] rfl ?_
        exact ih8 ((h + 1), nup f1 ((goP L k q t h).length) (((L.getD h 0) : Nat) : Int)) (by show (h + 1) ≤ L.length ∧ rep (nup f1 ((goP L k q t h).length) (((L.getD h 0) : Nat) : Int)) (goP L k q t (h + 1)); exact ⟨by omega, hE⟩) (by show L.length - (h + 1) < L.length - h; omega)
      · refine j_iload F dX7_goes_75 1 rfl ?_
        refine j_iload_n F dX7_goes_77 rfl 5 rfl ?_
        refine j_icmp_eq F (tgt := 102) dX7_goes_78 (by decide) ⟨(by unfold rg; omega), (by unfold rg; omega)⟩ (fun c78 => ?_) (fun c78 => ?_)
        · refine j_iload F dX7_goes_102 1 rfl ?_
          refine j_iload_n F dX7_goes_104 rfl 4 rfl ?_
          refine j_icmp_ne F (tgt := 141) dX7_goes_105 (by decide) ⟨(by unfold rg; omega), (by unfold rg; omega)⟩ (fun c105 => ?_) (fun h9 => by exfalso; omega)
          have eI : goI L k q t h = [] := by unfold goI; rw [if_neg (by omega), if_pos (by omega)]
          have eE : goP L k q t (h + 1) = goP L k q t h := by show goP L k q t h ++ goI L k q t h = _; rw [eI, List.append_nil]
          have hE : rep f1 (goP L k q t (h + 1)) := by rw [eE]; exact i2
          refine J.wsEq (ws2 := moC g ad th cC cT (cL.1, ((L.length : Nat) : Int), cL.2.2.1, cL.2.2.2.1, cL.2.2.2.2.1, cL.2.2.2.2.2.1, f1, (((goP L k q t (h + 1)).length : Nat) : Int)) cP) (by (try dsimp only); rw [eE]) ?_
          refine j_iinc F (lv' := [(4, .int (iI ((h : Int) + 1))), (5, .int (iI (((L.getD h 0) : Nat) : Int))), (0, .ref (ad 0)), (1, .int (iI (k : Int))), (2, .int (iI (q : Int))), (3, .int (iI (t : Int)))]) dX7_goes_141 1 rfl (by decide) rfl ?_
          refine j_goto F (tgt := 8) dX7_goes_144 (by decide) ?_
          refine J.loc [0, 2, 3, 4, 5] rfl ?_
          exact ih8 ((h + 1), f1) (by show (h + 1) ≤ L.length ∧ rep f1 (goP L k q t (h + 1)); exact ⟨by omega, hE⟩) (by show L.length - (h + 1) < L.length - h; omega)
        · refine j_aload_n F dX7_goes_81 rfl 2 rfl ?_
          refine j_getf F (ref := "CairnGameModel") (C := RX7) (T := TX7) (N := 27) (ci := 7) (index := 49) (v := .ref (ad 20)) (fun w h => (List.mem_cons_of_mem _ (List.mem_append_right _ h))) 0 rfl rfl 20 (by decide) (List.mem_cons_of_mem _ (List.mem_append_left _ (List.mem_of_getElem? (i := 3) rfl))) rfl rfl dX7_goes_82 ?_
          refine j_aload_n F dX7_goes_85 rfl 2 rfl ?_
          refine j_getf F (ref := "CairnGameModel") (C := RX7) (T := TX7) (N := 27) (ci := 7) (index := 70) (v := .int (iI (((goP L k q t h).length : Nat) : Int))) (fun w h => (List.mem_cons_of_mem _ (List.mem_append_right _ h))) 0 rfl rfl 21 (by decide) (List.mem_cons_of_mem _ (List.mem_append_left _ (List.mem_of_getElem? (i := 0) rfl))) rfl rfl dX7_goes_86 ?_
          refine j_iload F dX7_goes_89 0 rfl ?_
          refine j_iast F (ws' := moC g ad th cC cT (cL.1, ((L.length : Nat) : Int), cL.2.2.1, cL.2.2.2.1, cL.2.2.2.2.1, cL.2.2.2.2.2.1, nup f1 ((goP L k q t h).length) (((L.getD h 0) : Nat) : Int), (((goP L k q t h).length : Nat) : Int)) cP) 14 (n := 13) (f := f1) rfl ((goP L k q t h).length) (by omega) (by omega) (by decide) rfl dX7_goes_91 ?_
          refine j_aload_n F dX7_goes_92 rfl 2 rfl ?_
          refine j_dup F dX7_goes_93 rfl ?_
          refine j_getf F (ref := "CairnGameModel") (C := RX7) (T := TX7) (N := 27) (ci := 7) (index := 70) (v := .int (iI (((goP L k q t h).length : Nat) : Int))) (fun w h => (List.mem_cons_of_mem _ (List.mem_append_right _ h))) 0 rfl rfl 21 (by decide) (List.mem_cons_of_mem _ (List.mem_append_left _ (List.mem_of_getElem? (i := 0) rfl))) rfl rfl dX7_goes_94 ?_
          refine j_iconst F dX7_goes_97 ?_
          refine j_iadd F dX7_goes_98 ?_
          refine j_putf F (ref := "CairnGameModel") (C := RX7) (T := TX7) (N := 27) (ci := 7) (index := 70) (ty := .int) (ws' := moC g ad th cC cT (cL.1, ((L.length : Nat) : Int), cL.2.2.1, cL.2.2.2.1, cL.2.2.2.2.1, cL.2.2.2.2.2.1, nup f1 ((goP L k q t h).length) (((L.getD h 0) : Nat) : Int), ((((goP L k q t h).length : Nat) : Int) + 1)) cP) (fun w h => (List.mem_cons_of_mem _ (List.mem_append_right _ h))) tyX7 tyX7_ok nmX7 0 rfl rfl 21 (by decide) (List.mem_cons_of_mem _ (List.mem_append_left _ (List.mem_of_getElem? (i := 0) rfl))) rfl rfl rfl rfl rfl (lt_ble rfl) rfl dX7_goes_99 ?_
          refine j_iload F dX7_goes_102 1 rfl ?_
          refine j_iload_n F dX7_goes_104 rfl 4 rfl ?_
          refine j_icmp_ne F (tgt := 141) dX7_goes_105 (by decide) ⟨(by unfold rg; omega), (by unfold rg; omega)⟩ (fun c105 => ?_) (fun h9 => by exfalso; omega)
          have eI : goI L k q t h = [L.getD h 0] := by unfold goI; rw [if_neg (by omega), if_neg (by omega)]
          have eE : goP L k q t (h + 1) = goP L k q t h ++ [L.getD h 0] := by show goP L k q t h ++ goI L k q t h = _; rw [eI]
          have hE : rep (nup f1 (goP L k q t h).length ((L.getD h 0 : Nat) : Int)) (goP L k q t (h + 1)) := by rw [eE]; exact (rep_snoc i2 (L.getD h 0))
          refine J.wsEq (ws2 := moC g ad th cC cT (cL.1, ((L.length : Nat) : Int), cL.2.2.1, cL.2.2.2.1, cL.2.2.2.2.1, cL.2.2.2.2.2.1, nup f1 ((goP L k q t h).length) (((L.getD h 0) : Nat) : Int), (((goP L k q t (h + 1)).length : Nat) : Int)) cP) (by (try dsimp only); rw [eE, List.length_append]; rfl) ?_
          refine j_iinc F (lv' := [(4, .int (iI ((h : Int) + 1))), (5, .int (iI (((L.getD h 0) : Nat) : Int))), (0, .ref (ad 0)), (1, .int (iI (k : Int))), (2, .int (iI (q : Int))), (3, .int (iI (t : Int)))]) dX7_goes_141 1 rfl (by decide) rfl ?_
          refine j_goto F (tgt := 8) dX7_goes_144 (by decide) ?_
          refine J.loc [0, 2, 3, 4, 5] rfl ?_
          exact ih8 ((h + 1), nup f1 ((goP L k q t h).length) (((L.getD h 0) : Nat) : Int)) (by show (h + 1) ≤ L.length ∧ rep (nup f1 ((goP L k q t h).length) (((L.getD h 0) : Nat) : Int)) (goP L k q t (h + 1)); exact ⟨by omega, hE⟩) (by show L.length - (h + 1) < L.length - h; omega)
    · have eh : h = q := by omega
      refine j_iload_n F dX7_goes_32 rfl 3 rfl ?_
      refine j_if_ne F (tgt := 43) dX7_goes_33 (by decide) (by unfold rg; omega) (fun c33 => ?_) (fun c33 => ?_)
      · refine j_iload_n F dX7_goes_43 rfl 3 rfl ?_
        refine j_iconst F dX7_goes_44 ?_
        refine j_icmp_ne F (tgt := 52) dX7_goes_45 (by decide) ⟨(by unfold rg; omega), (by unfold rg; omega)⟩ (fun c45 => ?_) (fun c45 => ?_)
        · have hm2 : k = 2 ∧ q < t ∧ t < L.length := by rcases hm.2 with h9 | h9 | h9 <;> omega
          have hft := hr t hm2.2.2
          have hxt := okH_at hL hm2.2.2
          refine j_iload F dX7_goes_52 0 rfl ?_
          refine j_aload_n F dX7_goes_54 rfl 2 rfl ?_
          refine j_getf F (ref := "CairnGameModel") (C := RX7) (T := TX7) (N := 27) (ci := 7) (index := 37) (v := .ref (ad 14)) (fun w h => (List.mem_cons_of_mem _ (List.mem_append_right _ h))) 0 rfl rfl 14 (by decide) (List.mem_cons_of_mem _ (List.mem_append_left _ (List.mem_of_getElem? (i := 2) rfl))) rfl rfl dX7_goes_55 ?_
          refine j_iload_n F dX7_goes_58 rfl 5 rfl ?_
          refine j_iald F 10 (n := 12) (f := cL.1) rfl t (rfl) (by omega) (by decide) dX7_goes_59 ?_
          refine J.top (congrArg iI (show cL.1 t = (((L.getD t 0) : Nat) : Int) from hft)) ?_
          refine j_iadd F dX7_goes_60 ?_
          refine j_iconst F dX7_goes_61 ?_
          refine j_isub F dX7_goes_62 ?_
          refine J.top (congrArg iI (show (((((L.getD h 0) : Nat) : Int) + (((L.getD t 0) : Nat) : Int)) - 1) = (((L.getD h 0 + L.getD t 0 - 1) : Nat) : Int) from by omega)) ?_
          refine j_istore F (lv' := [(5, .int (iI (((L.getD h 0 + L.getD t 0 - 1) : Nat) : Int))), (4, .int (iI (h : Int))), (0, .ref (ad 0)), (1, .int (iI (k : Int))), (2, .int (iI (q : Int))), (3, .int (iI (t : Int)))]) dX7_goes_63 (by decide) rfl ?_
          refine j_iload F dX7_goes_65 0 rfl ?_
          refine j_if_le F (tgt := 102) dX7_goes_67 (by decide) (by unfold rg; omega) (fun h9 => by exfalso; omega) (fun c67 => ?_)
          refine j_iload_n F dX7_goes_70 rfl 3 rfl ?_
          refine j_iconst F dX7_goes_71 ?_
          refine j_icmp_ne F (tgt := 81) dX7_goes_72 (by decide) ⟨(by unfold rg; omega), (by unfold rg; omega)⟩ (fun h9 => by exfalso; omega) (fun c72 => ?_)
          refine j_iload F dX7_goes_75 1 rfl ?_
          refine j_iload_n F dX7_goes_77 rfl 5 rfl ?_
          refine j_icmp_eq F (tgt := 102) dX7_goes_78 (by decide) ⟨(by unfold rg; omega), (by unfold rg; omega)⟩ (fun h9 => by exfalso; omega) (fun c78 => ?_)
          refine j_aload_n F dX7_goes_81 rfl 2 rfl ?_
          refine j_getf F (ref := "CairnGameModel") (C := RX7) (T := TX7) (N := 27) (ci := 7) (index := 49) (v := .ref (ad 20)) (fun w h => (List.mem_cons_of_mem _ (List.mem_append_right _ h))) 0 rfl rfl 20 (by decide) (List.mem_cons_of_mem _ (List.mem_append_left _ (List.mem_of_getElem? (i := 3) rfl))) rfl rfl dX7_goes_82 ?_
          refine j_aload_n F dX7_goes_85 rfl 2 rfl ?_
          refine j_getf F (ref := "CairnGameModel") (C := RX7) (T := TX7) (N := 27) (ci := 7) (index := 70) (v := .int (iI (((goP L k q t h).length : Nat) : Int))) (fun w h => (List.mem_cons_of_mem _ (List.mem_append_right _ h))) 0 rfl rfl 21 (by decide) (List.mem_cons_of_mem _ (List.mem_append_left _ (List.mem_of_getElem? (i := 0) rfl))) rfl rfl dX7_goes_86 ?_
          refine j_iload F dX7_goes_89 0 rfl ?_
          refine j_iast F (ws' := moC g ad th cC cT (cL.1, ((L.length : Nat) : Int), cL.2.2.1, cL.2.2.2.1, cL.2.2.2.2.1, cL.2.2.2.2.2.1, nup f1 ((goP L k q t h).length) (((L.getD h 0 + L.getD t 0 - 1) : Nat) : Int), (((goP L k q t h).length : Nat) : Int)) cP) 14 (n := 13) (f := f1) rfl ((goP L k q t h).length) (by omega) (by omega) (by decide) rfl dX7_goes_91 ?_
          refine j_aload_n F dX7_goes_92 rfl 2 rfl ?_
          refine j_dup F dX7_goes_93 rfl ?_
          refine j_getf F (ref := "CairnGameModel") (C := RX7) (T := TX7) (N := 27) (ci := 7) (index := 70) (v := .int (iI (((goP L k q t h).length : Nat) : Int))) (fun w h => (List.mem_cons_of_mem _ (List.mem_append_right _ h))) 0 rfl rfl 21 (by decide) (List.mem_cons_of_mem _ (List.mem_append_left _ (List.mem_of_getElem? (i := 0) rfl))) rfl rfl dX7_goes_94 ?_
          refine j_iconst F dX7_goes_97 ?_
          refine j_iadd F dX7_goes_98 ?_
          refine j_putf F (ref := "CairnGameModel") (C := RX7) (T := TX7) (N := 27) (ci := 7) (index := 70) (ty := .int) (ws' := moC g ad th cC cT (cL.1, ((L.length : Nat) : Int), cL.2.2.1, cL.2.2.2.1, cL.2.2.2.2.1, cL.2.2.2.2.2.1, nup f1 ((goP L k q t h).length) (((L.getD h 0 + L.getD t 0 - 1) : Nat) : Int), ((((goP L k q t h).length : Nat) : Int) + 1)) cP) (fun w h => (List.mem_cons_of_mem _ (List.mem_append_right _ h))) tyX7 tyX7_ok nmX7 0 rfl rfl 21 (by decide) (List.mem_cons_of_mem _ (List.mem_append_left _ (List.mem_of_getElem? (i := 0) rfl))) rfl rfl rfl rfl rfl (lt_ble rfl) rfl dX7_goes_99 ?_
          refine j_iload F dX7_goes_102 1 rfl ?_
          refine j_iload_n F dX7_goes_104 rfl 4 rfl ?_
          refine j_icmp_ne F (tgt := 141) dX7_goes_105 (by decide) ⟨(by unfold rg; omega), (by unfold rg; omega)⟩ (fun h9 => by exfalso; omega) (fun c105 => ?_)
          refine j_iload_n F dX7_goes_108 rfl 3 rfl ?_
          refine j_iconst F dX7_goes_109 ?_
          refine j_icmp_ne F (tgt := 141) dX7_goes_110 (by decide) ⟨(by unfold rg; omega), (by unfold rg; omega)⟩ (fun c110 => ?_) (fun h9 => by exfalso; omega)
          have eI : goI L k q t h = [L.getD h 0 + L.getD t 0 - 1] := by unfold goI; rw [if_pos eh, if_neg (by omega), if_neg (by omega), ← eh]
          have eE : goP L k q t (h + 1) = goP L k q t h ++ [L.getD h 0 + L.getD t 0 - 1] := by show goP L k q t h ++ goI L k q t h = _; rw [eI]
          have hE : rep (nup f1 (goP L k q t h).length ((L.getD h 0 + L.getD t 0 - 1 : Nat) : Int)) (goP L k q t (h + 1)) := by rw [eE]; exact (rep_snoc i2 (L.getD h 0 + L.getD t 0 - 1))
          refine J.wsEq (ws2 := moC g ad th cC cT (cL.1, ((L.length : Nat) : Int), cL.2.2.1, cL.2.2.2.1, cL.2.2.2.2.1, cL.2.2.2.2.2.1, nup f1 ((goP L k q t h).length) (((L.getD h 0 + L.getD t 0 - 1) : Nat) : Int), (((goP L k q t (h + 1)).length : Nat) : Int)) cP) (by (try dsimp only); rw [eE, List.length_append]; rfl) ?_
          refine j_iinc F (lv' := [(4, .int (iI ((h : Int) + 1))), (5, .int (iI (((L.getD h 0 + L.getD t 0 - 1) : Nat) : Int))), (0, .ref (ad 0)), (1, .int (iI (k : Int))), (2, .int (iI (q : Int))), (3, .int (iI (t : Int)))]) dX7_goes_141 1 rfl (by decide) rfl ?_
          refine j_goto F (tgt := 8) dX7_goes_144 (by decide) ?_
          refine J.loc [0, 2, 3, 4, 5] rfl ?_
          exact ih8 ((h + 1), nup f1 ((goP L k q t h).length) (((L.getD h 0 + L.getD t 0 - 1) : Nat) : Int)) (by show (h + 1) ≤ L.length ∧ rep (nup f1 ((goP L k q t h).length) (((L.getD h 0 + L.getD t 0 - 1) : Nat) : Int)) (goP L k q t (h + 1)); exact ⟨by omega, hE⟩) (by show L.length - (h + 1) < L.length - h; omega)
        · have hm1 : 1 ≤ t ∧ t < L.getD h 0 := by rw [eh]; rcases hm.2 with h9 | h9 | h9 <;> omega
          refine j_iload_n F dX7_goes_48 rfl 5 rfl ?_
          refine j_goto F (tgt := 63) dX7_goes_49 (by decide) ?_
          refine j_istore F (lv' := [(5, .int (iI (t : Int))), (4, .int (iI (h : Int))), (0, .ref (ad 0)), (1, .int (iI (k : Int))), (2, .int (iI (q : Int))), (3, .int (iI (t : Int)))]) dX7_goes_63 (by decide) rfl ?_
          refine j_iload F dX7_goes_65 0 rfl ?_
          refine j_if_le F (tgt := 102) dX7_goes_67 (by decide) (by unfold rg; omega) (fun h9 => by exfalso; omega) (fun c67 => ?_)
          refine j_iload_n F dX7_goes_70 rfl 3 rfl ?_
          refine j_iconst F dX7_goes_71 ?_
          refine j_icmp_ne F (tgt := 81) dX7_goes_72 (by decide) ⟨(by unfold rg; omega), (by unfold rg; omega)⟩ (fun c72 => ?_) (fun h9 => by exfalso; omega)
          refine j_aload_n F dX7_goes_81 rfl 2 rfl ?_
          refine j_getf F (ref := "CairnGameModel") (C := RX7) (T := TX7) (N := 27) (ci := 7) (index := 49) (v := .ref (ad 20)) (fun w h => (List.mem_cons_of_mem _ (List.mem_append_right _ h))) 0 rfl rfl 20 (by decide) (List.mem_cons_of_mem _ (List.mem_append_left _ (List.mem_of_getElem? (i := 3) rfl))) rfl rfl dX7_goes_82 ?_
          refine j_aload_n F dX7_goes_85 rfl 2 rfl ?_
          refine j_getf F (ref := "CairnGameModel") (C := RX7) (T := TX7) (N := 27) (ci := 7) (index := 70) (v := .int (iI (((goP L k q t h).length : Nat) : Int))) (fun w h => (List.mem_cons_of_mem _ (List.mem_append_right _ h))) 0 rfl rfl 21 (by decide) (List.mem_cons_of_mem _ (List.mem_append_left _ (List.mem_of_getElem? (i := 0) rfl))) rfl rfl dX7_goes_86 ?_
          refine j_iload F dX7_goes_89 0 rfl ?_
          refine j_iast F (ws' := moC g ad th cC cT (cL.1, ((L.length : Nat) : Int), cL.2.2.1, cL.2.2.2.1, cL.2.2.2.2.1, cL.2.2.2.2.2.1, nup f1 ((goP L k q t h).length) (t : Int), (((goP L k q t h).length : Nat) : Int)) cP) 14 (n := 13) (f := f1) rfl ((goP L k q t h).length) (by omega) (by omega) (by decide) rfl dX7_goes_91 ?_
          refine j_aload_n F dX7_goes_92 rfl 2 rfl ?_
          refine j_dup F dX7_goes_93 rfl ?_
          refine j_getf F (ref := "CairnGameModel") (C := RX7) (T := TX7) (N := 27) (ci := 7) (index := 70) (v := .int (iI (((goP L k q t h).length : Nat) : Int))) (fun w h => (List.mem_cons_of_mem _ (List.mem_append_right _ h))) 0 rfl rfl 21 (by decide) (List.mem_cons_of_mem _ (List.mem_append_left _ (List.mem_of_getElem? (i := 0) rfl))) rfl rfl dX7_goes_94 ?_
          refine j_iconst F dX7_goes_97 ?_
          refine j_iadd F dX7_goes_98 ?_
          refine j_putf F (ref := "CairnGameModel") (C := RX7) (T := TX7) (N := 27) (ci := 7) (index := 70) (ty := .int) (ws' := moC g ad th cC cT (cL.1, ((L.length : Nat) : Int), cL.2.2.1, cL.2.2.2.1, cL.2.2.2.2.1, cL.2.2.2.2.2.1, nup f1 ((goP L k q t h).length) (t : Int), ((((goP L k q t h).length : Nat) : Int) + 1)) cP) (fun w h => (List.mem_cons_of_mem _ (List.mem_append_right _ h))) tyX7 tyX7_ok nmX7 0 rfl rfl 21 (by decide) (List.mem_cons_of_mem _ (List.mem_append_left _ (List.mem_of_getElem? (i := 0) rfl))) rfl rfl rfl rfl rfl (lt_ble rfl) rfl dX7_goes_99 ?_
          refine j_iload F dX7_goes_102 1 rfl ?_
          refine j_iload_n F dX7_goes_104 rfl 4 rfl ?_
          refine j_icmp_ne F (tgt := 141) dX7_goes_105 (by decide) ⟨(by unfold rg; omega), (by unfold rg; omega)⟩ (fun h9 => by exfalso; omega) (fun c105 => ?_)
          refine j_iload_n F dX7_goes_108 rfl 3 rfl ?_
          refine j_iconst F dX7_goes_109 ?_
          refine j_icmp_ne F (tgt := 141) dX7_goes_110 (by decide) ⟨(by unfold rg; omega), (by unfold rg; omega)⟩ (fun h9 => by exfalso; omega) (fun c110 => ?_)
          refine j_aload_n F dX7_goes_113 rfl 2 rfl ?_
          refine j_getf F (ref := "CairnGameModel") (C := RX7) (T := TX7) (N := 27) (ci := 7) (index := 49) (v := .ref (ad 20)) (fun w h => (List.mem_cons_of_mem _ (List.mem_append_right _ h))) 0 rfl rfl 20 (by decide) (List.mem_cons_of_mem _ (List.mem_append_left _ (List.mem_of_getElem? (i := 3) rfl))) rfl rfl dX7_goes_114 ?_
          refine j_aload_n F dX7_goes_117 rfl 2 rfl ?_
          refine j_getf F (ref := "CairnGameModel") (C := RX7) (T := TX7) (N := 27) (ci := 7) (index := 70) (v := .int (iI ((((goP L k q t h).length : Nat) : Int) + 1))) (fun w h => (List.mem_cons_of_mem _ (List.mem_append_right _ h))) 0 rfl rfl 21 (by decide) (List.mem_cons_of_mem _ (List.mem_append_left _ (List.mem_of_getElem? (i := 0) rfl))) rfl rfl dX7_goes_118 ?_
          refine j_aload_n F dX7_goes_121 rfl 2 rfl ?_
          refine j_getf F (ref := "CairnGameModel") (C := RX7) (T := TX7) (N := 27) (ci := 7) (index := 37) (v := .ref (ad 14)) (fun w h => (List.mem_cons_of_mem _ (List.mem_append_right _ h))) 0 rfl rfl 14 (by decide) (List.mem_cons_of_mem _ (List.mem_append_left _ (List.mem_of_getElem? (i := 2) rfl))) rfl rfl dX7_goes_122 ?_
          refine j_iload F dX7_goes_125 1 rfl ?_
          refine j_iald F 10 (n := 12) (f := cL.1) rfl h (rfl) (by omega) (by decide) dX7_goes_127 ?_
          refine J.top (congrArg iI (show cL.1 h = (((L.getD h 0) : Nat) : Int) from hfi)) ?_
          refine j_iload_n F dX7_goes_128 rfl 5 rfl ?_
          refine j_isub F dX7_goes_129 ?_
          refine J.top (congrArg iI (show ((((L.getD h 0) : Nat) : Int) - (t : Int)) = (((L.getD h 0 - t) : Nat) : Int) from by omega)) ?_
          refine j_iast F (ws' := moC g ad th cC cT (cL.1, ((L.length : Nat) : Int), cL.2.2.1, cL.2.2.2.1, cL.2.2.2.2.1, cL.2.2.2.2.2.1, nup (nup f1 ((goP L k q t h).length) (t : Int)) ((goP L k q t h).length + 1) (((L.getD h 0 - t) : Nat) : Int), ((((goP L k q t h).length : Nat) : Int) + 1)) cP) 14 (n := 13) (f := (nup f1 ((goP L k q t h).length) (t : Int))) rfl ((goP L k q t h).length + 1) (by omega) (by omega) (by decide) rfl dX7_goes_130 ?_
          refine j_aload_n F dX7_goes_131 rfl 2 rfl ?_
          refine j_dup F dX7_goes_132 rfl ?_
          refine j_getf F (ref := "CairnGameModel") (C := RX7) (T := TX7) (N := 27) (ci := 7) (index := 70) (v := .int (iI ((((goP L k q t h).length : Nat) : Int) + 1))) (fun w h => (List.mem_cons_of_mem _ (List.mem_append_right _ h))) 0 rfl rfl 21 (by decide) (List.mem_cons_of_mem _ (List.mem_append_left _ (List.mem_of_getElem? (i := 0) rfl))) rfl rfl dX7_goes_133 ?_
          refine j_iconst F dX7_goes_136 ?_
          refine j_iadd F dX7_goes_137 ?_
          refine j_putf F (ref := "CairnGameModel") (C := RX7) (T := TX7) (N := 27) (ci := 7) (index := 70) (ty := .int) (ws' := moC g ad th cC cT (cL.1, ((L.length : Nat) : Int), cL.2.2.1, cL.2.2.2.1, cL.2.2.2.2.1, cL.2.2.2.2.2.1, nup (nup f1 ((goP L k q t h).length) (t : Int)) ((goP L k q t h).length + 1) (((L.getD h 0 - t) : Nat) : Int), (((((goP L k q t h).length : Nat) : Int) + 1) + 1)) cP) (fun w h => (List.mem_cons_of_mem _ (List.mem_append_right _ h))) tyX7 tyX7_ok nmX7 0 rfl rfl 21 (by decide) (List.mem_cons_of_mem _ (List.mem_append_left _ (List.mem_of_getElem? (i := 0) rfl))) rfl rfl rfl rfl rfl (lt_ble rfl) rfl dX7_goes_138 ?_
          have eI : goI L k q t h = [t, L.getD h 0 - t] := by unfold goI; rw [if_pos eh, if_neg (by omega), if_pos (by omega), ← eh]
          have eE : goP L k q t (h + 1) = goP L k q t h ++ [t, L.getD h 0 - t] := by show goP L k q t h ++ goI L k q t h = _; rw [eI]
          have hE : rep (nup (nup f1 (goP L k q t h).length ((t : Nat) : Int)) ((goP L k q t h).length + 1) ((L.getD h 0 - t : Nat) : Int)) (goP L k q t (h + 1)) := by rw [eE, show goP L k q t h ++ [t, L.getD h 0 - t] = (goP L k q t h ++ [t]) ++ [L.getD h 0 - t] by rw [List.append_assoc]; rfl]; have h9 := rep_snoc (rep_snoc i2 (t)) (L.getD h 0 - t); rw [List.length_append] at h9; exact h9
          refine J.wsEq (ws2 := moC g ad th cC cT (cL.1, ((L.length : Nat) : Int), cL.2.2.1, cL.2.2.2.1, cL.2.2.2.2.1, cL.2.2.2.2.2.1, nup (nup f1 ((goP L k q t h).length) (t : Int)) ((goP L k q t h).length + 1) (((L.getD h 0 - t) : Nat) : Int), (((goP L k q t (h + 1)).length : Nat) : Int)) cP) (by (try dsimp only); rw [eE, List.length_append]; rfl) ?_
          refine j_iinc F (lv' := [(4, .int (iI ((h : Int) + 1))), (5, .int (iI (t : Int))), (0, .ref (ad 0)), (1, .int (iI (k : Int))), (2, .int (iI (q : Int))), (3, .int (iI (t : Int)))]) dX7_goes_141 1 rfl (by decide) rfl ?_
          refine j_goto F (tgt := 8) dX7_goes_144 (by decide) ?_
          refine J.loc [0, 2, 3, 4, 5] rfl ?_
          exact ih8 ((h + 1), nup (nup f1 ((goP L k q t h).length) (t : Int)) ((goP L k q t h).length + 1) (((L.getD h 0 - t) : Nat) : Int)) (by show (h + 1) ≤ L.length ∧ rep (nup (nup f1 ((goP L k q t h).length) (t : Int)) ((goP L k q t h).length + 1) (((L.getD h 0 - t) : Nat) : Int)) (goP L k q t (h + 1)); exact ⟨by omega, hE⟩) (by show L.length - (h + 1) < L.length - h; omega)
      · have hm0 : 1 ≤ t ∧ t ≤ L.getD h 0 := by rw [eh]; rcases hm.2 with h9 | h9 | h9 <;> omega
        refine j_iload F dX7_goes_36 0 rfl ?_
        refine j_iload_n F dX7_goes_38 rfl 5 rfl ?_
        refine j_isub F dX7_goes_39 ?_
        refine J.top (congrArg iI (show ((((L.getD h 0) : Nat) : Int) - (t : Int)) = (((L.getD h 0 - t) : Nat) : Int) from by omega)) ?_
        refine j_goto F (tgt := 63) dX7_goes_40 (by decide) ?_
        refine j_istore F (lv' := [(5, .int (iI (((L.getD h 0 - t) : Nat) : Int))), (4, .int (iI (h : Int))), (0, .ref (ad 0)), (1, .int (iI (k : Int))), (2, .int (iI (q : Int))), (3, .int (iI (t : Int)))]) dX7_goes_63 (by decide) rfl ?_
        refine j_iload F dX7_goes_65 0 rfl ?_
        refine j_if_le F (tgt := 102) dX7_goes_67 (by decide) (by unfold rg; omega) (fun c67 => ?_) (fun c67 => ?_)
        · refine j_iload F dX7_goes_102 1 rfl ?_
          refine j_iload_n F dX7_goes_104 rfl 4 rfl ?_
          refine j_icmp_ne F (tgt := 141) dX7_goes_105 (by decide) ⟨(by unfold rg; omega), (by unfold rg; omega)⟩ (fun h9 => by exfalso; omega) (fun c105 => ?_)
          refine j_iload_n F dX7_goes_108 rfl 3 rfl ?_
          refine j_iconst F dX7_goes_109 ?_
          refine j_icmp_ne F (tgt := 141) dX7_goes_110 (by decide) ⟨(by unfold rg; omega), (by unfold rg; omega)⟩ (fun c110 => ?_) (fun h9 => by exfalso; omega)
          have eI : goI L k q t h = [] := by unfold goI; rw [if_pos eh, if_pos (by omega), if_pos (by rw [← eh]; omega)]
          have eE : goP L k q t (h + 1) = goP L k q t h := by show goP L k q t h ++ goI L k q t h = _; rw [eI, List.append_nil]
          have hE : rep f1 (goP L k q t (h + 1)) := by rw [eE]; exact i2
          refine J.wsEq (ws2 := moC g ad th cC cT (cL.1, ((L.length : Nat) : Int), cL.2.2.1, cL.2.2.2.1, cL.2.2.2.2.1, cL.2.2.2.2.2.1, f1, (((goP L k q t (h + 1)).length : Nat) : Int)) cP) (by (try dsimp only); rw [eE]) ?_
          refine j_iinc F (lv' := [(4, .int (iI ((h : Int) + 1))), (5, .int (iI (((L.getD h 0 - t) : Nat) : Int))), (0, .ref (ad 0)), (1, .int (iI (k : Int))), (2, .int (iI (q : Int))), (3, .int (iI (t : Int)))]) dX7_goes_141 1 rfl (by decide) rfl ?_
          refine j_goto F (tgt := 8) dX7_goes_144 (by decide) ?_
          refine J.loc [0, 2, 3, 4, 5] rfl ?_
          exact ih8 ((h + 1), f1) (by show (h + 1) ≤ L.length ∧ rep f1 (goP L k q t (h + 1)); exact ⟨by omega, hE⟩) (by show L.length - (h + 1) < L.length - h; omega)
        · refine j_iload_n F dX7_goes_70 rfl 3 rfl ?_
          refine j_iconst F dX7_goes_71 ?_
          refine j_icmp_ne F (tgt := 81) dX7_goes_72 (by decide) ⟨(by unfold rg; omega), (by unfold rg; omega)⟩ (fun c72 => ?_) (fun h9 => by exfalso; omega)
          refine j_aload_n F dX7_goes_81 rfl 2 rfl ?_
          refine j_getf F (ref := "CairnGameModel") (C := RX7) (T := TX7) (N := 27) (ci := 7) (index := 49) (v := .ref (ad 20)) (fun w h => (List.mem_cons_of_mem _ (List.mem_append_right _ h))) 0 rfl rfl 20 (by decide) (List.mem_cons_of_mem _ (List.mem_append_left _ (List.mem_of_getElem? (i := 3) rfl))) rfl rfl dX7_goes_82 ?_
          refine j_aload_n F dX7_goes_85 rfl 2 rfl ?_
          refine j_getf F (ref := "CairnGameModel") (C := RX7) (T := TX7) (N := 27) (ci := 7) (index := 70) (v := .int (iI (((goP L k q t h).length : Nat) : Int))) (fun w h => (List.mem_cons_of_mem _ (List.mem_append_right _ h))) 0 rfl rfl 21 (by decide) (List.mem_cons_of_mem _ (List.mem_append_left _ (List.mem_of_getElem? (i := 0) rfl))) rfl rfl dX7_goes_86 ?_
          refine j_iload F dX7_goes_89 0 rfl ?_
          refine j_iast F (ws' := moC g ad th cC cT (cL.1, ((L.length : Nat) : Int), cL.2.2.1, cL.2.2.2.1, cL.2.2.2.2.1, cL.2.2.2.2.2.1, nup f1 ((goP L k q t h).length) (((L.getD h 0 - t) : Nat) : Int), (((goP L k q t h).length : Nat) : Int)) cP) 14 (n := 13) (f := f1) rfl ((goP L k q t h).length) (by omega) (by omega) (by decide) rfl dX7_goes_91 ?_
          refine j_aload_n F dX7_goes_92 rfl 2 rfl ?_
          refine j_dup F dX7_goes_93 rfl ?_
          refine j_getf F (ref := "CairnGameModel") (C := RX7) (T := TX7) (N := 27) (ci := 7) (index := 70) (v := .int (iI (((goP L k q t h).length : Nat) : Int))) (fun w h => (List.mem_cons_of_mem _ (List.mem_append_right _ h))) 0 rfl rfl 21 (by decide) (List.mem_cons_of_mem _ (List.mem_append_left _ (List.mem_of_getElem? (i := 0) rfl))) rfl rfl dX7_goes_94 ?_
          refine j_iconst F dX7_goes_97 ?_
          refine j_iadd F dX7_goes_98 ?_
          refine j_putf F (ref := "CairnGameModel") (C := RX7) (T := TX7) (N := 27) (ci := 7) (index := 70) (ty := .int) (ws' := moC g ad th cC cT (cL.1, ((L.length : Nat) : Int), cL.2.2.1, cL.2.2.2.1, cL.2.2.2.2.1, cL.2.2.2.2.2.1, nup f1 ((goP L k q t h).length) (((L.getD h 0 - t) : Nat) : Int), ((((goP L k q t h).length : Nat) : Int) + 1)) cP) (fun w h => (List.mem_cons_of_mem _ (List.mem_append_right _ h))) tyX7 tyX7_ok nmX7 0 rfl rfl 21 (by decide) (List.mem_cons_of_mem _ (List.mem_append_left _ (List.mem_of_getElem? (i := 0) rfl))) rfl rfl rfl rfl rfl (lt_ble rfl) rfl dX7_goes_99 ?_
          refine j_iload F dX7_goes_102 1 rfl ?_
          refine j_iload_n F dX7_goes_104 rfl 4 rfl ?_
          refine j_icmp_ne F (tgt := 141) dX7_goes_105 (by decide) ⟨(by unfold rg; omega), (by unfold rg; omega)⟩ (fun h9 => by exfalso; omega) (fun c105 => ?_)
          refine j_iload_n F dX7_goes_108 rfl 3 rfl ?_
          refine j_iconst F dX7_goes_109 ?_
          refine j_icmp_ne F (tgt := 141) dX7_goes_110 (by decide) ⟨(by unfold rg; omega), (by unfold rg; omega)⟩ (fun c110 => ?_) (fun h9 => by exfalso; omega)
          have eI : goI L k q t h = [L.getD h 0 - t] := by unfold goI; rw [if_pos eh, if_pos (by omega), if_neg (by rw [← eh]; omega), ← eh]
          have eE : goP L k q t (h + 1) = goP L k q t h ++ [L.getD h 0 - t] := by show goP L k q t h ++ goI L k q t h = _; rw [eI]
          have hE : rep (nup f1 (goP L k q t h).length ((L.getD h 0 - t : Nat) : Int)) (goP L k q t (h + 1)) := by rw [eE]; exact (rep_snoc i2 (L.getD h 0 - t))
          refine J.wsEq (ws2 := moC g ad th cC cT (cL.1, ((L.length : Nat) : Int), cL.2.2.1, cL.2.2.2.1, cL.2.2.2.2.1, cL.2.2.2.2.2.1, nup f1 ((goP L k q t h).length) (((L.getD h 0 - t) : Nat) : Int), (((goP L k q t (h + 1)).length : Nat) : Int)) cP) (by (try dsimp only); rw [eE, List.length_append]; rfl) ?_
          refine j_iinc F (lv' := [(4, .int (iI ((h : Int) + 1))), (5, .int (iI (((L.getD h 0 - t) : Nat) : Int))), (0, .ref (ad 0)), (1, .int (iI (k : Int))), (2, .int (iI (q : Int))), (3, .int (iI (t : Int)))]) dX7_goes_141 1 rfl (by decide) rfl ?_
          refine j_goto F (tgt := 8) dX7_goes_144 (by decide) ?_
          refine J.loc [0, 2, 3, 4, 5] rfl ?_
          exact ih8 ((h + 1), nup f1 ((goP L k q t h).length) (((L.getD h 0 - t) : Nat) : Int)) (by show (h + 1) ≤ L.length ∧ rep (nup f1 ((goP L k q t h).length) (((L.getD h 0 - t) : Nat) : Int)) (goP L k q t (h + 1)); exact ⟨by omega, hE⟩) (by show L.length - (h + 1) < L.length - h; omega)

end X7B