/-! ===== the model: its table is laid; the start ===== -/
section X7L
def posF (f : NF) (Ps : List (List Nat)) : Prop := ∀ i, i < Ps.length → ∀ k, k < 12 → f (12 * i + k) = (((Ps.getD i []).getD k 0 : Nat) : Int)
theorem getD_pl {Ps : List (List Nat)} {x : List Nat} {i : Nat} (h : i < Ps.length) : (Ps ++ [x]).getD i [] = Ps.getD i [] := getD_app_l h
theorem posF_push {f : NF} {Ps : List (List Nat)} {x : List Nat} (H : posF f Ps) (h : ∀ k, k < 12 → f (12 * Ps.length + k) = ((x.getD k 0 : Nat) : Int)) : posF f (Ps ++ [x]) := by
  intro i hi k hk
  rw [List.length_append] at hi
  by_cases w : i = Ps.length
  · subst w
    rw [getD_app_r]
    exact h k hk
  · have w2 : i < Ps.length := by simp only [List.length_cons, List.length_nil] at hi; omega
    rw [getD_app_l w2]
    exact H i w2 k hk
theorem posF_keep {f : NF} {Ps : List (List Nat)} (H : posF f Ps) {j : Nat} (hj : 12 * Ps.length ≤ j) (v : Int) : posF (nup f j v) Ps := by
  intro i hi k hk
  rw [nup_n _ _ (by omega)]
  exact H i hi k hk
def fS (n : Nat) (l : List (List Nat)) : List (List Nat) := l.filter (fun p => p.length == n)
theorem fS_t {n : Nat} {x : List Nat} {l : List (List Nat)} (h : x.length = n) : fS n (x :: l) = x :: fS n l := by
  unfold fS
  rw [List.filter_cons, if_pos (by simp [h])]
theorem fS_f {n : Nat} {x : List Nat} {l : List (List Nat)} (h : ¬ x.length = n) : fS n (x :: l) = fS n l := by
  unfold fS
  rw [List.filter_cons, if_neg (by simp [h])]
theorem enumM_n {u : Nat} {L : List Nat} (h : nextM L = none) : enumM (u + 1) L = [L] := by
  rw [enumM, h]
theorem enumM_s {u : Nat} {L L2 : List Nat} (h : nextM L = some L2) : enumM (u + 1) L = L :: enumM u L2 := by
  rw [enumM, h]

theorem row_0 (n : Nat) {f : NF} (h : ∀ j, j < 12 → f j = 0) : bhR (nup f 0 (n : Int)) (if n = 0 then [] else [n]) := by
  intro k hk
  by_cases w : n = 0
  · rw [if_pos w]
    by_cases w2 : k = 0
    · rw [w2, nup_s, w]; rfl
    · rw [nup_n _ _ w2, h k hk]; rfl
  · rw [if_neg w]
    by_cases w2 : k = 0
    · rw [w2, nup_s]; rfl
    · obtain ⟨i, rfl⟩ : ∃ i, k = i + 1 := ⟨k - 1, by omega⟩
      rw [nup_n _ _ w2, h _ hk]; rfl
theorem row_l {n9 u : Nat} {L : List Nat} (h : L.length = n9) : fS n9 (enumM (u + 1) L) = L :: fS n9 (match nextM L with | none => [] | some l => enumM u l) := by
  rw [enumM, fS_t h]
  rfl
theorem row_k {n9 u : Nat} {L : List Nat} (h : ¬ L.length = n9) : fS n9 (enumM (u + 1) L) = fS n9 (match nextM L with | none => [] | some l => enumM u l) := by
  rw [enumM, fS_f h]
  rfl
theorem row_n {n9 u w : Nat} {L : List Nat} {qs Y : List (List Nat)} (h1 : qs ++ fS n9 (enumM (u - 1 + 1) L) = Y) (h2 : (enumM (u - 1 + 1) L).length + (100 - (u - 1 + 1)) = w) (hu : u ≤ 100 ∧ 1 ≤ u) (h : ¬ L.length = n9) : (match nextM L with | none => qs = Y ∧ True | some L3 => qs ++ fS n9 (enumM (u - 1) L3) = Y ∧ (enumM (u - 1) L3).length + (100 - (u - 1)) = w) := by
  rw [row_k h] at h1
  cases e : nextM L with
  | none =>
    rw [e] at h1
    exact ⟨by rw [← h1]; exact (List.append_nil qs).symm, trivial⟩
  | some L3 =>
    rw [e] at h1
    rw [enumM_s e, List.length_cons] at h2
    exact ⟨h1, by omega⟩
theorem row_y {n9 u w : Nat} {L : List Nat} {qs Y : List (List Nat)} (h1 : qs ++ fS n9 (enumM (u - 1 + 1) L) = Y) (h2 : (enumM (u - 1 + 1) L).length + (100 - (u - 1 + 1)) = w) (hu : u ≤ 100 ∧ 1 ≤ u) (h : L.length = n9) : (match nextM L with | none => (qs ++ [L]) = Y ∧ True | some L3 => (qs ++ [L]) ++ fS n9 (enumM (u - 1) L3) = Y ∧ (enumM (u - 1) L3).length + (100 - (u - 1)) = w) := by
  rw [row_l h] at h1
  cases e : nextM L with
  | none =>
    rw [e] at h1
    exact ⟨by rw [← h1]; rfl, trivial⟩
  | some L3 =>
    rw [e] at h1
    rw [enumM_s e, List.length_cons] at h2
    exact ⟨by rw [← h1, List.append_assoc]; rfl, by omega⟩

set_option maxHeartbeats 2000000 in
set_option maxRecDepth 100000 in
theorem c_X7_laysPositions {l : Launch} (hfl : l.flags = flags0) (D : va_G) (g : GT) (z : ZT) (ad : Nat → Nat) (th : Int) (cC : CT) (cT : TT) (cL : LT) (cP : PT) (Ps : List (List Nat)) (n n9 : Nat) (hn : n ≤ 12) (hn9 : n9 ≤ 12) (hPs : posF cT.1 Ps) (hroom9 : (Ps ++ fS n9 (rowM n)).length ≤ 272) : CV l yX7_laysPositions wsX7_laysPositions 2 49 2 D g z [.ref (ad 0), .int (iI (n : Int)), .int (iI (n9 : Int))] (moC g ad th cC (cT.1, cT.2.1, ((Ps.length : Nat) : Int), cT.2.2.2.1, cT.2.2.2.2.1, cT.2.2.2.2.2.1, cT.2.2.2.2.2.2.1, cT.2.2.2.2.2.2.2) cL cP) (fun (u9 : NF × NF) => posF u9.1 (Ps ++ fS n9 (rowM n))) (fun (u9 : NF × NF) => moC g ad th cC (u9.1, cT.2.1, ((((Ps ++ fS n9 (rowM n))).length : Nat) : Int), cT.2.2.2.1, cT.2.2.2.2.1, cT.2.2.2.2.2.1, cT.2.2.2.2.2.2.1, cT.2.2.2.2.2.2.2) (u9.2, cL.2.1, cL.2.2.1, cL.2.2.2.1, cL.2.2.2.2.1, cL.2.2.2.2.2.1, cL.2.2.2.2.2.2.1, cL.2.2.2.2.2.2.2) cP) 0 0 := by
  refine CV_of hfl (own := RX7) ⟨1, 0, 0, 24⟩ 2 49 2 (by decide +kernel) rfl rfl ⟨by decide, by decide, by decide +kernel⟩ ⟨by decide, by decide⟩ (le_ble rfl) ?_
  intro p e s m below meth c A Q F hin ret
  change J p l e _ s m _ below meth c A D _ Q 0 0 (moC g ad th cC (cT.1, cT.2.1, ((Ps.length : Nat) : Int), cT.2.2.2.1, cT.2.2.2.2.1, cT.2.2.2.2.2.1, cT.2.2.2.2.2.2.1, cT.2.2.2.2.2.2.2) cL cP) [(0, .ref (ad 0)), (1, .int (iI (n : Int))), (2, .int (iI (n9 : Int)))] [] 0
  refine j_iconst F dX7_laysPositions_0 ?_
  refine j_istore_n F (lv' := [(3, .int (iI 0)), (0, .ref (ad 0)), (1, .int (iI (n : Int))), (2, .int (iI (n9 : Int)))]) dX7_laysPositions_1 rfl (by decide) rfl ?_
  refine J.loc [0, 1, 2, 3] rfl ?_
  refine J_loop (σ := Nat × NF) (fun x9 : Nat × NF => match x9 with | (k, f1) => k ≤ 12 ∧ ∀ j, j < k → f1 j = 0) (fun x9 : Nat × NF => match x9 with | (k, f1) => 12 - k) (fun x9 : Nat × NF => match x9 with | (k, f1) => moC g ad th cC (cT.1, cT.2.1, ((Ps.length : Nat) : Int), cT.2.2.2.1, cT.2.2.2.2.1, cT.2.2.2.2.2.1, cT.2.2.2.2.2.2.1, cT.2.2.2.2.2.2.2) (f1, cL.2.1, cL.2.2.1, cL.2.2.2.1, cL.2.2.2.2.1, cL.2.2.2.2.2.1, cL.2.2.2.2.2.2.1, cL.2.2.2.2.2.2.2) cP) (fun x9 : Nat × NF => match x9 with | (k, f1) => [(3, .int (iI (k : Int))), (0, .ref (ad 0)), (1, .int (iI (n : Int))), (2, .int (iI (n9 : Int)))]) (0, cL.1) (by show 0 ≤ 12 ∧ ∀ j, j < 0 → cL.1 j = 0; exact ⟨Nat.zero_le _, fun j hj => absurd hj (Nat.not_lt_zero j)⟩) ?_
  rintro ⟨k, f1⟩ hI ih2
  have hI : k ≤ 12 ∧ ∀ j, j < k → f1 j = 0 := hI
  obtain ⟨k1, k2⟩ := hI
  refine j_iload_n F dX7_laysPositions_2 rfl 0 rfl ?_
  refine j_bipush F dX7_laysPositions_3 (by decide) ?_
  refine j_icmp_ge F (tgt := 21) dX7_laysPositions_5 (by decide) ⟨(by unfold rg; omega), (by unfold rg; omega)⟩ (fun c5 => ?_) (fun c5 => ?_)
  · refine j_aload_n F dX7_laysPositions_21 rfl 1 rfl ?_
    refine j_getf F (ref := "CairnGameModel") (C := RX7) (T := TX7) (N := 27) (ci := 7) (index := 37) (v := .ref (ad 14)) (fun w h => (List.mem_cons_of_mem _ (List.mem_append_right _ h))) 0 rfl rfl 14 (by decide) (List.mem_cons_of_mem _ (List.mem_append_left _ (List.mem_of_getElem? (i := 0) rfl))) rfl rfl dX7_laysPositions_22 ?_
    refine j_iconst F dX7_laysPositions_25 ?_
    refine j_iload_n F dX7_laysPositions_26 rfl 2 rfl ?_
    refine j_iast F (ws' := moC g ad th cC (cT.1, cT.2.1, ((Ps.length : Nat) : Int), cT.2.2.2.1, cT.2.2.2.2.1, cT.2.2.2.2.2.1, cT.2.2.2.2.2.2.1, cT.2.2.2.2.2.2.2) (nup f1 0 (n : Int), cL.2.1, cL.2.2.1, cL.2.2.2.1, cL.2.2.2.2.1, cL.2.2.2.2.2.1, cL.2.2.2.2.2.2.1, cL.2.2.2.2.2.2.2) cP) 10 (n := 12) (f := f1) rfl 0 (by decide) (by decide) (by decide) rfl dX7_laysPositions_27 ?_
    have hb0 : bhR (nup f1 0 (n : Int)) (if n = 0 then [] else [n]) := row_0 n (fun j hj => k2 j (by omega))
    have ho0 : okH (if n = 0 then [] else [n]) := by by_cases z9 : n = 0; (rw [if_pos z9]; exact ⟨fun x hx => absurd hx List.not_mem_nil, by decide⟩); rw [if_neg z9]; exact okH_1 ⟨by omega, hn⟩
    refine j_iconst F dX7_laysPositions_28 ?_
    refine j_istore_n F (lv' := [(3, .int (iI 1)), (0, .ref (ad 0)), (1, .int (iI (n : Int))), (2, .int (iI (n9 : Int)))]) dX7_laysPositions_29 rfl (by decide) rfl ?_
    refine J.loc [0, 1, 2, 3] rfl ?_
    refine J_loop (σ := Int × List (List Nat) × List Nat × Nat × NF × NF) (fun x9 : Int × List (List Nat) × List Nat × Nat × NF × NF => match x9 with | (b, qs, L, u, pf, hf) => ((b = 0 ∨ b = 1) ∧ u ≤ 100 ∧ okH L) ∧ posF pf qs ∧ (b = 1 → qs ++ fS n9 (enumM u L) = (Ps ++ fS n9 (rowM n)) ∧ (enumM u L).length + (100 - u) = (rowM n).length ∧ bhR hf L) ∧ (b = 0 → qs = (Ps ++ fS n9 (rowM n)))) (fun x9 : Int × List (List Nat) × List Nat × Nat × NF × NF => match x9 with | (b, qs, L, u, pf, hf) => (if b = 0 then 0 else u + 1)) (fun x9 : Int × List (List Nat) × List Nat × Nat × NF × NF => match x9 with | (b, qs, L, u, pf, hf) => moC g ad th cC (pf, cT.2.1, ((qs.length : Nat) : Int), cT.2.2.2.1, cT.2.2.2.2.1, cT.2.2.2.2.2.1, cT.2.2.2.2.2.2.1, cT.2.2.2.2.2.2.2) (hf, cL.2.1, cL.2.2.1, cL.2.2.2.1, cL.2.2.2.2.1, cL.2.2.2.2.2.1, cL.2.2.2.2.2.2.1, cL.2.2.2.2.2.2.2) cP) (fun x9 : Int × List (List Nat) × List Nat × Nat × NF × NF => match x9 with | (b, qs, L, u, pf, hf) => [(3, .int (iI b)), (0, .ref (ad 0)), (1, .int (iI (n : Int))), (2, .int (iI (n9 : Int)))]) (1, Ps, (if n = 0 then [] else [n]), 100, cT.1, (nup f1 0 (n : Int))) (by show ((1 = 0 ∨ 1 = 1) ∧ 100 ≤ 100 ∧ okH (if n = 0 then [] else [n])) ∧ posF cT.1 Ps ∧ (1 = 1 → Ps ++ fS n9 (enumM 100 (if n = 0 then [] else [n])) = (Ps ++ fS n9 (rowM n)) ∧ (enumM 100 (if n = 0 then [] else [n])).length + (100 - 100) = (rowM n).length ∧ bhR (nup f1 0 (n : Int)) (if n = 0 then [] else [n])) ∧ (1 = 0 → Ps = (Ps ++ fS n9 (rowM n))); exact ⟨⟨Or.inr rfl, by omega, ho0⟩, hPs, fun _ => ⟨rfl, by rw [Nat.sub_self, Nat.add_zero]; rfl, hb0⟩, fun z => absurd z (by decide)⟩) ?_
    rintro ⟨b, qs, L, u, pf, hf⟩ hI ih30
    have hI : ((b = 0 ∨ b = 1) ∧ u ≤ 100 ∧ okH L) ∧ posF pf qs ∧ (b = 1 → qs ++ fS n9 (enumM u L) = (Ps ++ fS n9 (rowM n)) ∧ (enumM u L).length + (100 - u) = (rowM n).length ∧ bhR hf L) ∧ (b = 0 → qs = (Ps ++ fS n9 (rowM n))) := hI
    obtain ⟨⟨i1a, i1b, i1c⟩, i2, i3, i4⟩ := hI
    refine j_iload_n F dX7_laysPositions_30 rfl 0 rfl ?_
    refine j_if_eq F (tgt := 124) dX7_laysPositions_31 (by decide) (by unfold rg; omega) (fun c31 => ?_) (fun c31 => ?_)
    · have hX := i4 (by omega)
      refine J.wsEq (ws2 := moC g ad th cC (pf, cT.2.1, ((((Ps ++ fS n9 (rowM n))).length : Nat) : Int), cT.2.2.2.1, cT.2.2.2.2.1, cT.2.2.2.2.2.1, cT.2.2.2.2.2.2.1, cT.2.2.2.2.2.2.2) (hf, cL.2.1, cL.2.2.1, cL.2.2.2.1, cL.2.2.2.2.1, cL.2.2.2.2.2.1, cL.2.2.2.2.2.2.1, cL.2.2.2.2.2.2.2) cP) (by first | (rw [hX]) | (dsimp only; rw [hX])) ?_
      exact ret (pf, hf) 0 0 _ _ dX7_laysPositions_124 (by decide) (by decide) (by rw [← hX]; exact i2)
    · obtain ⟨i5, i6, i7⟩ := i3 (by omega)
      have hu : 1 ≤ u := by rcases Nat.eq_zero_or_pos u with w | w; (rw [w, enumM] at i6; have h9 := rowM_len n (by omega); simp only [List.length_nil] at i6; omega); exact w
      have hlL := okH_len i1c
      have eu : u = (u - 1) + 1 := by omega
      rw [eu] at i5 i6
      refine j_iconst F dX7_laysPositions_34 ?_
      refine j_istore F (lv' := [(4, .int (iI 0)), (3, .int (iI b)), (0, .ref (ad 0)), (1, .int (iI (n : Int))), (2, .int (iI (n9 : Int)))]) dX7_laysPositions_35 (by decide) rfl ?_
      refine J.loc [0, 1, 2, 3, 4] rfl ?_
      refine J_loop (σ := Nat) (fun v : Nat => v ≤ L.length) (fun v : Nat => L.length - v) (fun v : Nat => moC g ad th cC (pf, cT.2.1, ((qs.length : Nat) : Int), cT.2.2.2.1, cT.2.2.2.2.1, cT.2.2.2.2.2.1, cT.2.2.2.2.2.2.1, cT.2.2.2.2.2.2.2) (hf, cL.2.1, cL.2.2.1, cL.2.2.2.1, cL.2.2.2.2.1, cL.2.2.2.2.2.1, cL.2.2.2.2.2.2.1, cL.2.2.2.2.2.2.2) cP) (fun v : Nat => [(4, .int (iI (v : Int))), (3, .int (iI b)), (0, .ref (ad 0)), (1, .int (iI (n : Int))), (2, .int (iI (n9 : Int)))]) (0) (by show 0 ≤ L.length; exact Nat.zero_le _) ?_
      rintro v hI ih37
      have hI : v ≤ L.length := hI
      have hv12 : v ≤ 12 := by omega
      refine j_iload F dX7_laysPositions_37 0 rfl ?_
      refine j_bipush F dX7_laysPositions_39 (by decide) ?_
      refine j_icmp_ge F (tgt := 60) dX7_laysPositions_41 (by decide) ⟨(by unfold rg; omega), (by unfold rg; omega)⟩ (fun c41 => ?_) (fun c41 => ?_)
      · have ev : v = L.length := by omega
        refine J.lvEq (lv2 := [(4, .int (iI ((L.length : Nat) : Int))), (3, .int (iI b)), (0, .ref (ad 0)), (1, .int (iI (n : Int))), (2, .int (iI (n9 : Int)))]) (by first | (rw [ev]) | (dsimp only; rw [ev])) ?_
        refine j_iload F dX7_laysPositions_60 0 rfl ?_
        refine j_iload_n F dX7_laysPositions_62 rfl 4 rfl ?_
        refine j_icmp_ne F (tgt := 114) dX7_laysPositions_63 (by decide) ⟨(by unfold rg; omega), (by unfold rg; omega)⟩ (fun c63 => ?_) (fun c63 => ?_)
        · have hoL : okH L := i1c
          have hpq := i2
          have hR : (match nextM L with | none => qs = (Ps ++ fS n9 (rowM n)) ∧ True | some L3 => qs ++ fS n9 (enumM (u - 1) L3) = (Ps ++ fS n9 (rowM n)) ∧ (enumM (u - 1) L3).length + (100 - (u - 1)) = (rowM n).length) := row_n i5 i6 (by omega) (by omega)
          refine j_aload_n F dX7_laysPositions_114 rfl 2 rfl ?_
          refine j_iload F dX7_laysPositions_115 0 rfl ?_
          refine j_callV_I F (As := [.int (iI ((L.length : Nat) : Int))]) (wr := []) (st := []) (c_X7_goesOn hfl D g z ad th cC (pf, cT.2.1, ((qs.length : Nat) : Int), cT.2.2.2.1, cT.2.2.2.2.1, cT.2.2.2.2.2.1, cT.2.2.2.2.2.2.1, cT.2.2.2.2.2.2.2) (hf, cL.2.1, cL.2.2.1, cL.2.2.2.1, cL.2.2.2.2.1, cL.2.2.2.2.2.1, cL.2.2.2.2.2.2.1, cL.2.2.2.2.2.2.2) cP L hoL i7) (idx := 66) (C := RX7) gX7_laysPositions_X7_goesOn rfl rfl [0, 1, 2, 3, 4, 5, 6, 7, 8, 9, 10, 11, 12, 13, 14] [] rfl rfl (by decide) (by decide) (by decide) (ci := 7) (q0 := 0) rfl rfl (by decide) (by decide) (le_ble rfl) ⟨by decide, by decide⟩ dX7_laysPositions_117 ?_
          rintro r9 ug hg9
          obtain ⟨gb9, L2, gb1, gb2, gb3, gb4⟩ : ∃ gb9 : Int, ∃ L2 : List Nat, r9 = iI gb9 ∧ okH L2 ∧ (gb9 = 1 → nextM L = some L2 ∧ bhR ug L2) ∧ ((gb9 = 0 ∨ gb9 = 1) ∧ (gb9 = 0 → nextM L = none)) := by rcases hg9 with ⟨z1, z2⟩ | ⟨L3, z1, z2, z3, z4, z5⟩; (exact ⟨0, L, z2, hoL, fun z => absurd z (by decide), Or.inl rfl, fun _ => z1⟩); exact ⟨1, L3, z5, z3, fun _ => ⟨z1, z2⟩, Or.inr rfl, fun z => absurd z (by decide)⟩
          subst gb1
          refine J.wsEq (ws2 := moC g ad th cC (pf, cT.2.1, ((qs.length : Nat) : Int), cT.2.2.2.1, cT.2.2.2.2.1, cT.2.2.2.2.2.1, cT.2.2.2.2.2.2.1, cT.2.2.2.2.2.2.2) (ug, cL.2.1, cL.2.2.1, cL.2.2.2.1, cL.2.2.2.2.1, cL.2.2.2.2.2.1, cL.2.2.2.2.2.2.1, cL.2.2.2.2.2.2.2) cP) rfl ?_
          refine j_istore_n F (lv' := [(3, .int (iI gb9)), (4, .int (iI ((L.length : Nat) : Int))), (0, .ref (ad 0)), (1, .int (iI (n : Int))), (2, .int (iI (n9 : Int)))]) dX7_laysPositions_120 rfl (by decide) rfl ?_
          have hlast : gb9 = 0 → qs = (Ps ++ fS n9 (rowM n)) := fun z => by rw [gb4.2 z] at hR; exact hR.1
          have hmore : gb9 = 1 → qs ++ fS n9 (enumM (u - 1) L2) = (Ps ++ fS n9 (rowM n)) ∧ (enumM (u - 1) L2).length + (100 - (u - 1)) = (rowM n).length := fun z => by rw [(gb3 z).1] at hR; exact ⟨hR.1, by have := hR.2; omega⟩
          refine j_goto F (tgt := 30) dX7_laysPositions_121 (by decide) ?_
          refine J.loc [0, 2, 3, 4] rfl ?_
          exact ih30 (gb9, qs, L2, (u - 1), pf, ug) (by show ((gb9 = 0 ∨ gb9 = 1) ∧ (u - 1) ≤ 100 ∧ okH L2) ∧ posF pf qs ∧ (gb9 = 1 → qs ++ fS n9 (enumM (u - 1) L2) = (Ps ++ fS n9 (rowM n)) ∧ (enumM (u - 1) L2).length + (100 - (u - 1)) = (rowM n).length ∧ bhR ug L2) ∧ (gb9 = 0 → qs = (Ps ++ fS n9 (rowM n))); exact ⟨⟨gb4.1, by omega, gb2⟩, hpq, fun z => ⟨(hmore z).1, (hmore z).2, (gb3 z).2⟩, hlast⟩) (by show (if gb9 = 0 then 0 else (u - 1) + 1) < (if b = 0 then 0 else u + 1); (rw [if_neg (show ¬ b = 0 by omega)]; split <;> omega))
        · have eln : L.length = n9 := by omega
          have hroom : qs.length < 272 := by have h9 := congrArg List.length i5; rw [row_l eln, List.length_append] at h9; simp only [List.length_cons] at h9; omega
          refine j_iconst F dX7_laysPositions_66 ?_
          refine j_istore F (lv' := [(5, .int (iI 0)), (4, .int (iI ((L.length : Nat) : Int))), (3, .int (iI b)), (0, .ref (ad 0)), (1, .int (iI (n : Int))), (2, .int (iI (n9 : Int)))]) dX7_laysPositions_67 (by decide) rfl ?_
          refine J.loc [0, 1, 3, 4, 5] rfl ?_
          refine J_loop (σ := Nat × NF) (fun x9 : Nat × NF => match x9 with | (k, p2) => k ≤ 12 ∧ posF p2 qs ∧ ∀ j, j < k → p2 (12 * qs.length + j) = ((L.getD j 0 : Nat) : Int)) (fun x9 : Nat × NF => match x9 with | (k, p2) => 12 - k) (fun x9 : Nat × NF => match x9 with | (k, p2) => moC g ad th cC (p2, cT.2.1, ((qs.length : Nat) : Int), cT.2.2.2.1, cT.2.2.2.2.1, cT.2.2.2.2.2.1, cT.2.2.2.2.2.2.1, cT.2.2.2.2.2.2.2) (hf, cL.2.1, cL.2.2.1, cL.2.2.2.1, cL.2.2.2.2.1, cL.2.2.2.2.2.1, cL.2.2.2.2.2.2.1, cL.2.2.2.2.2.2.2) cP) (fun x9 : Nat × NF => match x9 with | (k, p2) => [(5, .int (iI (k : Int))), (4, .int (iI ((L.length : Nat) : Int))), (0, .ref (ad 0)), (1, .int (iI (n : Int))), (2, .int (iI (n9 : Int)))]) (0, pf) (by show 0 ≤ 12 ∧ posF pf qs ∧ ∀ j, j < 0 → pf (12 * qs.length + j) = ((L.getD j 0 : Nat) : Int); exact ⟨Nat.zero_le _, i2, fun j hj => absurd hj (Nat.not_lt_zero j)⟩) ?_
          rintro ⟨k, p2⟩ hI ih69
          have hI : k ≤ 12 ∧ posF p2 qs ∧ ∀ j, j < k → p2 (12 * qs.length + j) = ((L.getD j 0 : Nat) : Int) := hI
          obtain ⟨m1, m2, m3⟩ := hI
          refine j_iload F dX7_laysPositions_69 0 rfl ?_
          refine j_bipush F dX7_laysPositions_71 (by decide) ?_
          refine j_icmp_ge F (tgt := 104) dX7_laysPositions_73 (by decide) ⟨(by unfold rg; omega), (by unfold rg; omega)⟩ (fun c73 => ?_) (fun c73 => ?_)
          · have ek12 : k = 12 := by omega
            have hpq : posF p2 (qs ++ [L]) := posF_push m2 (fun j hj => m3 j (by omega))
            refine j_aload_n F dX7_laysPositions_104 rfl 2 rfl ?_
            refine j_dup F dX7_laysPositions_105 rfl ?_
            refine j_getf F (ref := "CairnGameModel") (C := RX7) (T := TX7) (N := 27) (ci := 7) (index := 52) (v := .int (iI ((qs.length : Nat) : Int))) (fun w h => (List.mem_cons_of_mem _ (List.mem_append_right _ h))) 0 rfl rfl 8 (by decide) (List.mem_cons_of_mem _ (List.mem_append_left _ (List.mem_of_getElem? (i := 2) rfl))) rfl rfl dX7_laysPositions_106 ?_
            refine j_iconst F dX7_laysPositions_109 ?_
            refine j_iadd F dX7_laysPositions_110 ?_
            refine j_putf F (ref := "CairnGameModel") (C := RX7) (T := TX7) (N := 27) (ci := 7) (index := 52) (ty := .int) (ws' := moC g ad th cC (p2, cT.2.1, (((qs.length : Nat) : Int) + 1), cT.2.2.2.1, cT.2.2.2.2.1, cT.2.2.2.2.2.1, cT.2.2.2.2.2.2.1, cT.2.2.2.2.2.2.2) (hf, cL.2.1, cL.2.2.1, cL.2.2.2.1, cL.2.2.2.2.1, cL.2.2.2.2.2.1, cL.2.2.2.2.2.2.1, cL.2.2.2.2.2.2.2) cP) (fun w h => (List.mem_cons_of_mem _ (List.mem_append_right _ h))) tyX7 tyX7_ok nmX7 0 rfl rfl 8 (by decide) (List.mem_cons_of_mem _ (List.mem_append_left _ (List.mem_of_getElem? (i := 2) rfl))) rfl rfl rfl rfl rfl (lt_ble rfl) rfl dX7_laysPositions_111 ?_
            have hoL : okH L := i1c
            have hR : (match nextM L with | none => (qs ++ [L]) = (Ps ++ fS n9 (rowM n)) ∧ True | some L3 => (qs ++ [L]) ++ fS n9 (enumM (u - 1) L3) = (Ps ++ fS n9 (rowM n)) ∧ (enumM (u - 1) L3).length + (100 - (u - 1)) = (rowM n).length) := row_y i5 i6 (by omega) eln
            refine J.wsEq (ws2 := moC g ad th cC (p2, cT.2.1, (((qs ++ [L]).length : Nat) : Int), cT.2.2.2.1, cT.2.2.2.2.1, cT.2.2.2.2.2.1, cT.2.2.2.2.2.2.1, cT.2.2.2.2.2.2.2) (hf, cL.2.1, cL.2.2.1, cL.2.2.2.1, cL.2.2.2.2.1, cL.2.2.2.2.2.1, cL.2.2.2.2.2.2.1, cL.2.2.2.2.2.2.2) cP) (by first | (rw [List.length_append]; rfl) | (dsimp only; rw [List.length_append]; rfl)) ?_
            refine j_aload_n F dX7_laysPositions_114 rfl 2 rfl ?_
            refine j_iload F dX7_laysPositions_115 1 rfl ?_
            refine j_callV_I F (As := [.int (iI ((L.length : Nat) : Int))]) (wr := []) (st := []) (c_X7_goesOn hfl D g z ad th cC (p2, cT.2.1, ((((qs ++ [L])).length : Nat) : Int), cT.2.2.2.1, cT.2.2.2.2.1, cT.2.2.2.2.2.1, cT.2.2.2.2.2.2.1, cT.2.2.2.2.2.2.2) (hf, cL.2.1, cL.2.2.1, cL.2.2.2.1, cL.2.2.2.2.1, cL.2.2.2.2.2.1, cL.2.2.2.2.2.2.1, cL.2.2.2.2.2.2.2) cP L hoL i7) (idx := 66) (C := RX7) gX7_laysPositions_X7_goesOn rfl rfl [0, 1, 2, 3, 4, 5, 6, 7, 8, 9, 10, 11, 12, 13, 14] [] rfl rfl (by decide) (by decide) (by decide) (ci := 7) (q0 := 0) rfl rfl (by decide) (by decide) (le_ble rfl) ⟨by decide, by decide⟩ dX7_laysPositions_117 ?_
            rintro r9 ug hg9
            obtain ⟨gb9, L2, gb1, gb2, gb3, gb4⟩ : ∃ gb9 : Int, ∃ L2 : List Nat, r9 = iI gb9 ∧ okH L2 ∧ (gb9 = 1 → nextM L = some L2 ∧ bhR ug L2) ∧ ((gb9 = 0 ∨ gb9 = 1) ∧ (gb9 = 0 → nextM L = none)) := by rcases hg9 with ⟨z1, z2⟩ | ⟨L3, z1, z2, z3, z4, z5⟩; (exact ⟨0, L, z2, hoL, fun z => absurd z (by decide), Or.inl rfl, fun _ => z1⟩); exact ⟨1, L3, z5, z3, fun _ => ⟨z1, z2⟩, Or.inr rfl, fun z => absurd z (by decide)⟩
            subst gb1
            refine J.wsEq (ws2 := moC g ad th cC (p2, cT.2.1, ((((qs ++ [L])).length : Nat) : Int), cT.2.2.2.1, cT.2.2.2.2.1, cT.2.2.2.2.2.1, cT.2.2.2.2.2.2.1, cT.2.2.2.2.2.2.2) (ug, cL.2.1, cL.2.2.1, cL.2.2.2.1, cL.2.2.2.2.1, cL.2.2.2.2.2.1, cL.2.2.2.2.2.2.1, cL.2.2.2.2.2.2.2) cP) rfl ?_
            refine j_istore_n F (lv' := [(3, .int (iI gb9)), (5, .int (iI (k : Int))), (4, .int (iI ((L.length : Nat) : Int))), (0, .ref (ad 0)), (1, .int (iI (n : Int))), (2, .int (iI (n9 : Int)))]) dX7_laysPositions_120 rfl (by decide) rfl ?_
            have hlast : gb9 = 0 → (qs ++ [L]) = (Ps ++ fS n9 (rowM n)) := fun z => by rw [gb4.2 z] at hR; exact hR.1
            have hmore : gb9 = 1 → (qs ++ [L]) ++ fS n9 (enumM (u - 1) L2) = (Ps ++ fS n9 (rowM n)) ∧ (enumM (u - 1) L2).length + (100 - (u - 1)) = (rowM n).length := fun z => by rw [(gb3 z).1] at hR; exact ⟨hR.1, by have := hR.2; omega⟩
            refine j_goto F (tgt := 30) dX7_laysPositions_121 (by decide) ?_
            refine J.loc [0, 3, 4, 5] rfl ?_
            exact ih30 (gb9, (qs ++ [L]), L2, (u - 1), p2, ug) (by show ((gb9 = 0 ∨ gb9 = 1) ∧ (u - 1) ≤ 100 ∧ okH L2) ∧ posF p2 (qs ++ [L]) ∧ (gb9 = 1 → (qs ++ [L]) ++ fS n9 (enumM (u - 1) L2) = (Ps ++ fS n9 (rowM n)) ∧ (enumM (u - 1) L2).length + (100 - (u - 1)) = (rowM n).length ∧ bhR ug L2) ∧ (gb9 = 0 → (qs ++ [L]) = (Ps ++ fS n9 (rowM n))); exact ⟨⟨gb4.1, by omega, gb2⟩, hpq, fun z => ⟨(hmore z).1, (hmore z).2, (gb3 z).2⟩, hlast⟩) (by show (if gb9 = 0 then 0 else (u - 1) + 1) < (if b = 0 then 0 else u + 1); (rw [if_neg (show ¬ b = 0 by omega)]; split <;> omega))
          · refine j_aload_n F dX7_laysPositions_76 rfl 2 rfl ?_
            refine j_getf F (ref := "CairnGameModel") (C := RX7) (T := TX7) (N := 27) (ci := 7) (index := 19) (v := .ref (ad 6)) (fun w h => (List.mem_cons_of_mem _ (List.mem_append_right _ h))) 0 rfl rfl 6 (by decide) (List.mem_cons_of_mem _ (List.mem_append_left _ (List.mem_of_getElem? (i := 1) rfl))) rfl rfl dX7_laysPositions_77 ?_
            refine j_bipush F dX7_laysPositions_80 (by decide) ?_
            refine j_aload_n F dX7_laysPositions_82 rfl 2 rfl ?_
            refine j_getf F (ref := "CairnGameModel") (C := RX7) (T := TX7) (N := 27) (ci := 7) (index := 52) (v := .int (iI ((qs.length : Nat) : Int))) (fun w h => (List.mem_cons_of_mem _ (List.mem_append_right _ h))) 0 rfl rfl 8 (by decide) (List.mem_cons_of_mem _ (List.mem_append_left _ (List.mem_of_getElem? (i := 2) rfl))) rfl rfl dX7_laysPositions_83 ?_
            refine j_imul F dX7_laysPositions_86 ?_
            refine j_iload F dX7_laysPositions_87 0 rfl ?_
            refine j_iadd F dX7_laysPositions_89 ?_
            refine j_aload_n F dX7_laysPositions_90 rfl 2 rfl ?_
            refine j_getf F (ref := "CairnGameModel") (C := RX7) (T := TX7) (N := 27) (ci := 7) (index := 37) (v := .ref (ad 14)) (fun w h => (List.mem_cons_of_mem _ (List.mem_append_right _ h))) 0 rfl rfl 14 (by decide) (List.mem_cons_of_mem _ (List.mem_append_left _ (List.mem_of_getElem? (i := 0) rfl))) rfl rfl dX7_laysPositions_91 ?_
            refine j_iload F dX7_laysPositions_94 0 rfl ?_
            refine j_iald F 10 (n := 12) (f := hf) rfl k (rfl) (by omega) (by decide) dX7_laysPositions_96 ?_
            refine J.top (congrArg iI (show hf k = (((L.getD k 0) : Nat) : Int) from i7 k (by omega))) ?_
            refine j_iast F (ws' := moC g ad th cC (nup p2 ((12 * qs.length) + k) (((L.getD k 0) : Nat) : Int), cT.2.1, ((qs.length : Nat) : Int), cT.2.2.2.1, cT.2.2.2.2.1, cT.2.2.2.2.2.1, cT.2.2.2.2.2.2.1, cT.2.2.2.2.2.2.2) (hf, cL.2.1, cL.2.2.1, cL.2.2.2.1, cL.2.2.2.2.1, cL.2.2.2.2.2.1, cL.2.2.2.2.2.2.1, cL.2.2.2.2.2.2.2) cP) 4 (n := 3264) (f := p2) rfl ((12 * qs.length) + k) (by omega) (by omega) (by decide) rfl dX7_laysPositions_97 ?_
            refine j_iinc F (lv' := [(5, .int (iI ((k : Int) + 1))), (4, .int (iI ((L.length : Nat) : Int))), (0, .ref (ad 0)), (1, .int (iI (n : Int))), (2, .int (iI (n9 : Int)))]) dX7_laysPositions_98 0 rfl (by decide) rfl ?_
            refine j_goto F (tgt := 69) dX7_laysPositions_101 (by decide) ?_
            refine J.loc [0, 1, 2, 3, 4] rfl ?_
            exact ih69 ((k + 1), nup p2 ((12 * qs.length) + k) (((L.getD k 0) : Nat) : Int)) (by show (k + 1) ≤ 12 ∧ posF (nup p2 ((12 * qs.length) + k) (((L.getD k 0) : Nat) : Int)) qs ∧ ∀ j, j < (k + 1) → (nup p2 ((12 * qs.length) + k) (((L.getD k 0) : Nat) : Int)) (12 * qs.length + j) = ((L.getD j 0 : Nat) : Int); exact ⟨by omega, posF_keep m2 (by omega) _, fun j hj => (by by_cases w : j = k; (rw [w, nup_s]); rw [nup_n _ _ (by omega)]; exact m3 j (by omega))⟩) (by show 12 - (k + 1) < 12 - k; omega)
      · have hfv := i7 v (by omega)
        have hv9 := okH_at9 i1c v
        refine j_aload_n F dX7_laysPositions_44 rfl 2 rfl ?_
        refine j_getf F (ref := "CairnGameModel") (C := RX7) (T := TX7) (N := 27) (ci := 7) (index := 37) (v := .ref (ad 14)) (fun w h => (List.mem_cons_of_mem _ (List.mem_append_right _ h))) 0 rfl rfl 14 (by decide) (List.mem_cons_of_mem _ (List.mem_append_left _ (List.mem_of_getElem? (i := 0) rfl))) rfl rfl dX7_laysPositions_45 ?_
        refine j_iload F dX7_laysPositions_48 0 rfl ?_
        refine j_iald F 10 (n := 12) (f := hf) rfl v (rfl) (by omega) (by decide) dX7_laysPositions_50 ?_
        refine J.top (congrArg iI (show hf v = (((L.getD v 0) : Nat) : Int) from hfv)) ?_
        refine j_if_le F (tgt := 60) dX7_laysPositions_51 (by decide) (by unfold rg; omega) (fun c51 => ?_) (fun c51 => ?_)
        · have ev : v = L.length := by rcases Nat.lt_or_ge v L.length with w | w; (have := (okH_at i1c w).1; omega); omega
          refine J.lvEq (lv2 := [(4, .int (iI ((L.length : Nat) : Int))), (3, .int (iI b)), (0, .ref (ad 0)), (1, .int (iI (n : Int))), (2, .int (iI (n9 : Int)))]) (by first | (rw [ev]) | (dsimp only; rw [ev])) ?_
          refine j_iload F dX7_laysPositions_60 0 rfl ?_
          refine j_iload_n F dX7_laysPositions_62 rfl 4 rfl ?_
          refine j_icmp_ne F (tgt := 114) dX7_laysPositions_63 (by decide) ⟨(by unfold rg; omega), (by unfold rg; omega)⟩ (fun c63 => ?_) (fun c63 => ?_)
          · have hoL : okH L := i1c
            have hpq := i2
            have hR : (match nextM L with | none => qs = (Ps ++ fS n9 (rowM n)) ∧ True | some L3 => qs ++ fS n9 (enumM (u - 1) L3) = (Ps ++ fS n9 (rowM n)) ∧ (enumM (u - 1) L3).length + (100 - (u - 1)) = (rowM n).length) := row_n i5 i6 (by omega) (by omega)
            refine j_aload_n F dX7_laysPositions_114 rfl 2 rfl ?_
            refine j_iload F dX7_laysPositions_115 0 rfl ?_
            refine j_callV_I F (As := [.int (iI ((L.length : Nat) : Int))]) (wr := []) (st := []) (c_X7_goesOn hfl D g z ad th cC (pf, cT.2.1, ((qs.length : Nat) : Int), cT.2.2.2.1, cT.2.2.2.2.1, cT.2.2.2.2.2.1, cT.2.2.2.2.2.2.1, cT.2.2.2.2.2.2.2) (hf, cL.2.1, cL.2.2.1, cL.2.2.2.1, cL.2.2.2.2.1, cL.2.2.2.2.2.1, cL.2.2.2.2.2.2.1, cL.2.2.2.2.2.2.2) cP L hoL i7) (idx := 66) (C := RX7) gX7_laysPositions_X7_goesOn rfl rfl [0, 1, 2, 3, 4, 5, 6, 7, 8, 9, 10, 11, 12, 13, 14] [] rfl rfl (by decide) (by decide) (by decide) (ci := 7) (q0 := 0) rfl rfl (by decide) (by decide) (le_ble rfl) ⟨by decide, by decide⟩ dX7_laysPositions_117 ?_
            rintro r9 ug hg9
            obtain ⟨gb9, L2, gb1, gb2, gb3, gb4⟩ : ∃ gb9 : Int, ∃ L2 : List Nat, r9 = iI gb9 ∧ okH L2 ∧ (gb9 = 1 → nextM L = some L2 ∧ bhR ug L2) ∧ ((gb9 = 0 ∨ gb9 = 1) ∧ (gb9 = 0 → nextM L = none)) := by rcases hg9 with ⟨z1, z2⟩ | ⟨L3, z1, z2, z3, z4, z5⟩; (exact ⟨0, L, z2, hoL, fun z => absurd z (by decide), Or.inl rfl, fun _ => z1⟩); exact ⟨1, L3, z5, z3, fun _ => ⟨z1, z2⟩, Or.inr rfl, fun z => absurd z (by decide)⟩
            subst gb1
            refine J.wsEq (ws2 := moC g ad th cC (pf, cT.2.1, ((qs.length : Nat) : Int), cT.2.2.2.1, cT.2.2.2.2.1, cT.2.2.2.2.2.1, cT.2.2.2.2.2.2.1, cT.2.2.2.2.2.2.2) (ug, cL.2.1, cL.2.2.1, cL.2.2.2.1, cL.2.2.2.2.1, cL.2.2.2.2.2.1, cL.2.2.2.2.2.2.1, cL.2.2.2.2.2.2.2) cP) rfl ?_
            refine j_istore_n F (lv' := [(3, .int (iI gb9)), (4, .int (iI ((L.length : Nat) : Int))), (0, .ref (ad 0)), (1, .int (iI (n : Int))), (2, .int (iI (n9 : Int)))]) dX7_laysPositions_120 rfl (by decide) rfl ?_
            have hlast : gb9 = 0 → qs = (Ps ++ fS n9 (rowM n)) := fun z => by rw [gb4.2 z] at hR; exact hR.1
            have hmore : gb9 = 1 → qs ++ fS n9 (enumM (u - 1) L2) = (Ps ++ fS n9 (rowM n)) ∧ (enumM (u - 1) L2).length + (100 - (u - 1)) = (rowM n).length := fun z => by rw [(gb3 z).1] at hR; exact ⟨hR.1, by have := hR.2; omega⟩
            refine j_goto F (tgt := 30) dX7_laysPositions_121 (by decide) ?_
            refine J.loc [0, 2, 3, 4] rfl ?_
            exact ih30 (gb9, qs, L2, (u - 1), pf, ug) (by show ((gb9 = 0 ∨ gb9 = 1) ∧ (u - 1) ≤ 100 ∧ okH L2) ∧ posF pf qs ∧ (gb9 = 1 → qs ++ fS n9 (enumM (u - 1) L2) = (Ps ++ fS n9 (rowM n)) ∧ (enumM (u - 1) L2).length + (100 - (u - 1)) = (rowM n).length ∧ bhR ug L2) ∧ (gb9 = 0 → qs = (Ps ++ fS n9 (rowM n))); exact ⟨⟨gb4.1, by omega, gb2⟩, hpq, fun z => ⟨(hmore z).1, (hmore z).2, (gb3 z).2⟩, hlast⟩) (by show (if gb9 = 0 then 0 else (u - 1) + 1) < (if b = 0 then 0 else u + 1); (rw [if_neg (show ¬ b = 0 by omega)]; split <;> omega))
          · have eln : L.length = n9 := by omega
            have hroom : qs.length < 272 := by have h9 := congrArg List.length i5; rw [row_l eln, List.length_append] at h9; simp only [List.length_cons] at h9; omega
            refine j_iconst F dX7_laysPositions_66 ?_
            refine j_istore F (lv' := [(5, .int (iI 0)), (4, .int (iI ((L.length : Nat) : Int))), (3, .int (iI b)), (0, .ref (ad 0)), (1, .int (iI (n : Int))), (2, .int (iI (n9 : Int)))]) dX7_laysPositions_67 (by decide) rfl ?_
            refine J.loc [0, 1, 3, 4, 5] rfl ?_
            refine J_loop (σ := Nat × NF) (fun x9 : Nat × NF => match x9 with | (k, p2) => k ≤ 12 ∧ posF p2 qs ∧ ∀ j, j < k → p2 (12 * qs.length + j) = ((L.getD j 0 : Nat) : Int)) (fun x9 : Nat × NF => match x9 with | (k, p2) => 12 - k) (fun x9 : Nat × NF => match x9 with | (k, p2) => moC g ad th cC (p2, cT.2.1, ((qs.length : Nat) : Int), cT.2.2.2.1, cT.2.2.2.2.1, cT.2.2.2.2.2.1, cT.2.2.2.2.2.2.1, cT.2.2.2.2.2.2.2) (hf, cL.2.1, cL.2.2.1, cL.2.2.2.1, cL.2.2.2.2.1, cL.2.2.2.2.2.1, cL.2.2.2.2.2.2.1, cL.2.2.2.2.2.2.2) cP) (fun x9 : Nat × NF => match x9 with | (k, p2) => [(5, .int (iI (k : Int))), (4, .int (iI ((L.length : Nat) : Int))), (0, .ref (ad 0)), (1, .int (iI (n : Int))), (2, .int (iI (n9 : Int)))]) (0, pf) (by show 0 ≤ 12 ∧ posF pf qs ∧ ∀ j, j < 0 → pf (12 * qs.length + j) = ((L.getD j 0 : Nat) : Int); exact ⟨Nat.zero_le _, i2, fun j hj => absurd hj (Nat.not_lt_zero j)⟩) ?_
            rintro ⟨k, p2⟩ hI ih69
            have hI : k ≤ 12 ∧ posF p2 qs ∧ ∀ j, j < k → p2 (12 * qs.length + j) = ((L.getD j 0 : Nat) : Int) := hI
            obtain ⟨m1, m2, m3⟩ := hI
            refine j_iload F dX7_laysPositions_69 0 rfl ?_
            refine j_bipush F dX7_laysPositions_71 (by decide) ?_
            refine j_icmp_ge F (tgt := 104) dX7_laysPositions_73 (by decide) ⟨(by unfold rg; omega), (by unfold rg; omega)⟩ (fun c73 => ?_) (fun c73 => ?_)
            · have ek12 : k = 12 := by omega
              have hpq : posF p2 (qs ++ [L]) := posF_push m2 (fun j hj => m3 j (by omega))
              refine j_aload_n F dX7_laysPositions_104 rfl 2 rfl ?_
              refine j_dup F dX7_laysPositions_105 rfl ?_
              refine j_getf F (ref := "CairnGameModel") (C := RX7) (T := TX7) (N := 27) (ci := 7) (index := 52) (v := .int (iI ((qs.length : Nat) : Int))) (fun w h => (List.mem_cons_of_mem _ (List.mem_append_right _ h))) 0 rfl rfl 8 (by decide) (List.mem_cons_of_mem _ (List.mem_append_left _ (List.mem_of_getElem? (i := 2) rfl))) rfl rfl dX7_laysPositions_106 ?_
              refine j_iconst F dX7_laysPositions_109 ?_
              refine j_iadd F dX7_laysPositions_110 ?_
              refine j_putf F (ref := "CairnGameModel") (C := RX7) (T := TX7) (N := 27) (ci := 7) (index := 52) (ty := .int) (ws' := moC g ad th cC (p2, cT.2.1, (((qs.length : Nat) : Int) + 1), cT.2.2.2.1, cT.2.2.2.2.1, cT.2.2.2.2.2.1, cT.2.2.2.2.2.2.1, cT.2.2.2.2.2.2.2) (hf, cL.2.1, cL.2.2.1, cL.2.2.2.1, cL.2.2.2.2.1, cL.2.2.2.2.2.1, cL.2.2.2.2.2.2.1, cL.2.2.2.2.2.2.2) cP) (fun w h => (List.mem_cons_of_mem _ (List.mem_append_right _ h))) tyX7 tyX7_ok nmX7 0 rfl rfl 8 (by decide) (List.mem_cons_of_mem _ (List.mem_append_left _ (List.mem_of_getElem? (i := 2) rfl))) rfl rfl rfl rfl rfl (lt_ble rfl) rfl dX7_laysPositions_111 ?_
              have hoL : okH L := i1c
              have hR : (match nextM L with | none => (qs ++ [L]) = (Ps ++ fS n9 (rowM n)) ∧ True | some L3 => (qs ++ [L]) ++ fS n9 (enumM (u - 1) L3) = (Ps ++ fS n9 (rowM n)) ∧ (enumM (u - 1) L3).length + (100 - (u - 1)) = (rowM n).length) := row_y i5 i6 (by omega) eln
              refine J.wsEq (ws2 := moC g ad th cC (p2, cT.2.1, (((qs ++ [L]).length : Nat) : Int), cT.2.2.2.1, cT.2.2.2.2.1, cT.2.2.2.2.2.1, cT.2.2.2.2.2.2.1, cT.2.2.2.2.2.2.2) (hf, cL.2.1, cL.2.2.1, cL.2.2.2.1, cL.2.2.2.2.1, cL.2.2.2.2.2.1, cL.2.2.2.2.2.2.1, cL.2.2.2.2.2.2.2) cP) (by first | (rw [List.length_append]; rfl) | (dsimp only; rw [List.length_append]; rfl)) ?_
              refine j_aload_n F dX7_laysPositions_114 rfl 2 rfl ?_
              refine j_iload F dX7_laysPositions_115 1 rfl ?_
              refine j_callV_I F (As := [.int (iI ((L.length : Nat) : Int))]) (wr := []) (st := []) (c_X7_goesOn hfl D g z ad th cC (p2, cT.2.1, ((((qs ++ [L])).length : Nat) : Int), cT.2.2.2.1, cT.2.2.2.2.1, cT.2.2.2.2.2.1, cT.2.2.2.2.2.2.1, cT.2.2.2.2.2.2.2) (hf, cL.2.1, cL.2.2.1, cL.2.2.2.1, cL.2.2.2.2.1, cL.2.2.2.2.2.1, cL.2.2.2.2.2.2.1, cL.2.2.2.2.2.2.2) cP L hoL i7) (idx := 66) (C := RX7) gX7_laysPositions_X7_goesOn rfl rfl [0, 1, 2, 3, 4, 5, 6, 7, 8, 9, 10, 11, 12, 13, 14] [] rfl rfl (by decide) (by decide) (by decide) (ci := 7) (q0 := 0) rfl rfl (by decide) (by decide) (le_ble rfl) ⟨by decide, by decide⟩ dX7_laysPositions_117 ?_
              rintro r9 ug hg9
              obtain ⟨gb9, L2, gb1, gb2, gb3, gb4⟩ : ∃ gb9 : Int, ∃ L2 : List Nat, r9 = iI gb9 ∧ okH L2 ∧ (gb9 = 1 → nextM L = some L2 ∧ bhR ug L2) ∧ ((gb9 = 0 ∨ gb9 = 1) ∧ (gb9 = 0 → nextM L = none)) := by rcases hg9 with ⟨z1, z2⟩ | ⟨L3, z1, z2, z3, z4, z5⟩; (exact ⟨0, L, z2, hoL, fun z => absurd z (by decide), Or.inl rfl, fun _ => z1⟩); exact ⟨1, L3, z5, z3, fun _ => ⟨z1, z2⟩, Or.inr rfl, fun z => absurd z (by decide)⟩
              subst gb1
              refine J.wsEq (ws2 := moC g ad th cC (p2, cT.2.1, ((((qs ++ [L])).length : Nat) : Int), cT.2.2.2.1, cT.2.2.2.2.1, cT.2.2.2.2.2.1, cT.2.2.2.2.2.2.1, cT.2.2.2.2.2.2.2) (ug, cL.2.1, cL.2.2.1, cL.2.2.2.1, cL.2.2.2.2.1, cL.2.2.2.2.2.1, cL.2.2.2.2.2.2.1, cL.2.2.2.2.2.2.2) cP) rfl ?_
              refine j_istore_n F (lv' := [(3, .int (iI gb9)), (5, .int (iI (k : Int))), (4, .int (iI ((L.length : Nat) : Int))), (0, .ref (ad 0)), (1, .int (iI (n : Int))), (2, .int (iI (n9 : Int)))]) dX7_laysPositions_120 rfl (by decide) rfl ?_
              have hlast : gb9 = 0 → (qs ++ [L]) = (Ps ++ fS n9 (rowM n)) := fun z => by rw [gb4.2 z] at hR; exact hR.1
              have hmore : gb9 = 1 → (qs ++ [L]) ++ fS n9 (enumM (u - 1) L2) = (Ps ++ fS n9 (rowM n)) ∧ (enumM (u - 1) L2).length + (100 - (u - 1)) = (rowM n).length := fun z => by rw [(gb3 z).1] at hR; exact ⟨hR.1, by have := hR.2; omega⟩
              refine j_goto F (tgt := 30) dX7_laysPositions_121 (by decide) ?_
              refine J.loc [0, 3, 4, 5] rfl ?_
              exact ih30 (gb9, (qs ++ [L]), L2, (u - 1), p2, ug) (by show ((gb9 = 0 ∨ gb9 = 1) ∧ (u - 1) ≤ 100 ∧ okH L2) ∧ posF p2 (qs ++ [L]) ∧ (gb9 = 1 → (qs ++ [L]) ++ fS n9 (enumM (u - 1) L2) = (Ps ++ fS n9 (rowM n)) ∧ (enumM (u - 1) L2).length + (100 - (u - 1)) = (rowM n).length ∧ bhR ug L2) ∧ (gb9 = 0 → (qs ++ [L]) = (Ps ++ fS n9 (rowM n))); exact ⟨⟨gb4.1, by omega, gb2⟩, hpq, fun z => ⟨(hmore z).1, (hmore z).2, (gb3 z).2⟩, hlast⟩) (by show (if gb9 = 0 then 0 else (u - 1) + 1) < (if b = 0 then 0 else u + 1); (rw [if_neg (show ¬ b = 0 by omega)]; split <;> omega))
            · refine j_aload_n F dX7_laysPositions_76 rfl 2 rfl ?_
              refine j_getf F (ref := "CairnGameModel") (C := RX7) (T := TX7) (N := 27) (ci := 7) (index := 19) (v := .ref (ad 6)) (fun w h => (List.mem_cons_of_mem _ (List.mem_append_right _ h))) 0 rfl rfl 6 (by decide) (List.mem_cons_of_mem _ (List.mem_append_left _ (List.mem_of_getElem? (i := 1) rfl))) rfl rfl dX7_laysPositions_77 ?_
              refine j_bipush F dX7_laysPositions_80 (by decide) ?_
              refine j_aload_n F dX7_laysPositions_82 rfl 2 rfl ?_
              refine j_getf F (ref := "CairnGameModel") (C := RX7) (T := TX7) (N := 27) (ci := 7) (index := 52) (v := .int (iI ((qs.length : Nat) : Int))) (fun w h => (List.mem_cons_of_mem _ (List.mem_append_right _ h))) 0 rfl rfl 8 (by decide) (List.mem_cons_of_mem _ (List.mem_append_left _ (List.mem_of_getElem? (i := 2) rfl))) rfl rfl dX7_laysPositions_83 ?_
              refine j_imul F dX7_laysPositions_86 ?_
              refine j_iload F dX7_laysPositions_87 0 rfl ?_
              refine j_iadd F dX7_laysPositions_89 ?_
              refine j_aload_n F dX7_laysPositions_90 rfl 2 rfl ?_
              refine j_getf F (ref := "CairnGameModel") (C := RX7) (T := TX7) (N := 27) (ci := 7) (index := 37) (v := .ref (ad 14)) (fun w h => (List.mem_cons_of_mem _ (List.mem_append_right _ h))) 0 rfl rfl 14 (by decide) (List.mem_cons_of_mem _ (List.mem_append_left _ (List.mem_of_getElem? (i := 0) rfl))) rfl rfl dX7_laysPositions_91 ?_
              refine j_iload F dX7_laysPositions_94 0 rfl ?_
              refine j_iald F 10 (n := 12) (f := hf) rfl k (rfl) (by omega) (by decide) dX7_laysPositions_96 ?_
              refine J.top (congrArg iI (show hf k = (((L.getD k 0) : Nat) : Int) from i7 k (by omega))) ?_
              refine j_iast F (ws' := moC g ad th cC (nup p2 ((12 * qs.length) + k) (((L.getD k 0) : Nat) : Int), cT.2.1, ((qs.length : Nat) : Int), cT.2.2.2.1, cT.2.2.2.2.1, cT.2.2.2.2.2.1, cT.2.2.2.2.2.2.1, cT.2.2.2.2.2.2.2) (hf, cL.2.1, cL.2.2.1, cL.2.2.2.1, cL.2.2.2.2.1, cL.2.2.2.2.2.1, cL.2.2.2.2.2.2.1, cL.2.2.2.2.2.2.2) cP) 4 (n := 3264) (f := p2) rfl ((12 * qs.length) + k) (by omega) (by omega) (by decide) rfl dX7_laysPositions_97 ?_
              refine j_iinc F (lv' := [(5, .int (iI ((k : Int) + 1))), (4, .int (iI ((L.length : Nat) : Int))), (0, .ref (ad 0)), (1, .int (iI (n : Int))), (2, .int (iI (n9 : Int)))]) dX7_laysPositions_98 0 rfl (by decide) rfl ?_
              refine j_goto F (tgt := 69) dX7_laysPositions_101 (by decide) ?_
              refine J.loc [0, 1, 2, 3, 4] rfl ?_
              exact ih69 ((k + 1), nup p2 ((12 * qs.length) + k) (((L.getD k 0) : Nat) : Int)) (by show (k + 1) ≤ 12 ∧ posF (nup p2 ((12 * qs.length) + k) (((L.getD k 0) : Nat) : Int)) qs ∧ ∀ j, j < (k + 1) → (nup p2 ((12 * qs.length) + k) (((L.getD k 0) : Nat) : Int)) (12 * qs.length + j) = ((L.getD j 0 : Nat) : Int); exact ⟨by omega, posF_keep m2 (by omega) _, fun j hj => (by by_cases w : j = k; (rw [w, nup_s]); rw [nup_n _ _ (by omega)]; exact m3 j (by omega))⟩) (by show 12 - (k + 1) < 12 - k; omega)
        · have hvl : v < L.length := by rcases Nat.lt_or_ge v L.length with w | w; (exact w); have := getD_out0 L v w; omega
          refine j_iinc F (lv' := [(4, .int (iI ((v : Int) + 1))), (3, .int (iI b)), (0, .ref (ad 0)), (1, .int (iI (n : Int))), (2, .int (iI (n9 : Int)))]) dX7_laysPositions_54 0 rfl (by decide) rfl ?_
          refine j_goto F (tgt := 37) dX7_laysPositions_57 (by decide) ?_
          refine J.loc [0, 1, 2, 3, 4] rfl ?_
          exact ih37 (v + 1) (by show (v + 1) ≤ L.length; omega) (by show L.length - (v + 1) < L.length - v; omega)
  · refine j_aload_n F dX7_laysPositions_8 rfl 1 rfl ?_
    refine j_getf F (ref := "CairnGameModel") (C := RX7) (T := TX7) (N := 27) (ci := 7) (index := 37) (v := .ref (ad 14)) (fun w h => (List.mem_cons_of_mem _ (List.mem_append_right _ h))) 0 rfl rfl 14 (by decide) (List.mem_cons_of_mem _ (List.mem_append_left _ (List.mem_of_getElem? (i := 0) rfl))) rfl rfl dX7_laysPositions_9 ?_
    refine j_iload_n F dX7_laysPositions_12 rfl 0 rfl ?_
    refine j_iconst F dX7_laysPositions_13 ?_
    refine j_iast F (ws' := moC g ad th cC (cT.1, cT.2.1, ((Ps.length : Nat) : Int), cT.2.2.2.1, cT.2.2.2.2.1, cT.2.2.2.2.2.1, cT.2.2.2.2.2.2.1, cT.2.2.2.2.2.2.2) (nup f1 k 0, cL.2.1, cL.2.2.1, cL.2.2.2.1, cL.2.2.2.2.1, cL.2.2.2.2.2.1, cL.2.2.2.2.2.2.1, cL.2.2.2.2.2.2.2) cP) 10 (n := 12) (f := f1) rfl k (rfl) (by omega) (by decide) rfl dX7_laysPositions_14 ?_
    refine j_iinc F (lv' := [(3, .int (iI ((k : Int) + 1))), (0, .ref (ad 0)), (1, .int (iI (n : Int))), (2, .int (iI (n9 : Int)))]) dX7_laysPositions_15 0 rfl (by decide) rfl ?_
    refine j_goto F (tgt := 2) dX7_laysPositions_18 (by decide) ?_
    refine J.loc [0, 1, 2, 3] rfl ?_
    exact ih2 ((k + 1), nup f1 k 0) (by show (k + 1) ≤ 12 ∧ ∀ j, j < (k + 1) → (nup f1 k 0) j = 0; exact ⟨by omega, fun j hj => (by by_cases w : j = k; (rw [w, nup_s]); rw [nup_n _ _ w]; exact k2 j (by omega))⟩) (by show 12 - (k + 1) < 12 - k; omega)

end X7L