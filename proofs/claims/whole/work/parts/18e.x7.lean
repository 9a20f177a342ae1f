/-! ===== the model: what is recorded; rules; moves ===== -/
section X7E
abbrev GS : Type := List Nat × Nat × Nat × Nat × Nat × C3
def stMg (f : NF) (x : GS) : Prop := stM f x.1 x.2.1 x.2.2.1 x.2.2.2.1 x.2.2.2.2.1 x.2.2.2.2.2
def okG (x : GS) : Prop := okH x.1 ∧ (1 ≤ x.2.1 ∧ x.2.1 ≤ 5) ∧ x.2.2.1 ≤ 1 ∧ x.2.2.2.1 ≤ 1 ∧ x.2.2.2.2.1 ≤ 1
def g0 : GS := ([], 0, 0, 0, 0, (0, 0, 0))
theorem stM_ext {f f' : NF} {L : List Nat} {G S M Nn : Nat} {c : C3} (h : stM f L G S M Nn c) (hl : L.length ≤ 12) (e : ∀ k, k < 20 → f' k = f k) : stM f' L G S M Nn c := by
  obtain ⟨h0, h1, h2, h3, h4, h5, h6, h7, h8⟩ := h
  exact ⟨by rw [e 0 (by decide)]; exact h0, by rw [e 1 (by decide)]; exact h1, by rw [e 2 (by decide)]; exact h2, by rw [e 3 (by decide)]; exact h3, by rw [e 4 (by decide)]; exact h4, fun i hi => by rw [e (5 + i) (by omega)]; exact h5 i hi, by rw [e 17 (by decide)]; exact h6, by rw [e 18 (by decide)]; exact h7, by rw [e 19 (by decide)]; exact h8⟩
/-- the rows of what is recorded, the oldest first -/
def hisM (h : NF) (hs : List GS) : Prop := ∀ i, i < hs.length → stMg (fun k => h (20 * i + k)) (hs.getD i g0)
def rcP (hs : List GS) : List GS := if hs.length = 6 then hs.drop 1 else hs
def rcH (hs : List GS) (x : GS) : List GS := rcP hs ++ [x]
theorem rcP_len {hs : List GS} (h : hs.length ≤ 6) : (rcP hs).length ≤ 5 ∧ (rcP hs).length = if hs.length = 6 then 5 else hs.length := by
  unfold rcP
  split
  · rw [List.length_drop]; omega
  · omega
theorem getD_mg {hs : List GS} {i : Nat} (h : i < hs.length) : hs.getD i g0 ∈ hs := by
  rw [List.getD_eq_getElem?_getD, List.getElem?_eq_getElem h]
  exact List.getElem_mem h
theorem hisM_drop {h h1 : NF} {hs : List GS} (H : hisM h hs) (ok : ∀ x ∈ hs, okG x) (h6 : hs.length = 6) (e : ∀ j, j < 100 → h1 j = h (j + 20)) : hisM h1 (rcP hs) := by
  intro i hi
  unfold rcP at hi ⊢
  rw [if_pos h6] at hi ⊢
  rw [List.length_drop] at hi
  have e2 : (hs.drop 1).getD i g0 = hs.getD (i + 1) g0 := by
    rw [List.getD_eq_getElem?_getD, List.getD_eq_getElem?_getD, List.getElem?_drop, Nat.add_comm]
  rw [e2]
  have h3 := H (i + 1) (by omega)
  have ho := ok _ (getD_mg (hs := hs) (i := i + 1) (by omega))
  refine stM_ext h3 (okH_len ho.1) (fun k hk => ?_)
  show h1 (20 * i + k) = h (20 * (i + 1) + k)
  rw [e _ (by omega)]
  congr 1
  omega
theorem hisM_keep {h : NF} {hs : List GS} (H : hisM h hs) (ok : ∀ x ∈ hs, okG x) {j : Nat} (hj : 20 * hs.length ≤ j) (v : Int) : hisM (nup h j v) hs := by
  intro i hi
  have ho := ok _ (getD_mg (hs := hs) hi)
  refine stM_ext (H i hi) (okH_len ho.1) (fun k hk => ?_)
  show nup h j v (20 * i + k) = h (20 * i + k)
  rw [nup_n _ _ (by omega)]
theorem hisM_push {h f : NF} {hs : List GS} {x : GS} (H : hisM h hs) (hx : stMg f x) (hl : x.1.length ≤ 12) (e : ∀ k, k < 20 → h (20 * hs.length + k) = f k) : hisM h (hs ++ [x]) := by
  intro i hi
  rw [List.length_append] at hi
  by_cases w : i = hs.length
  · subst w
    rw [getD_app_r]
    exact stM_ext hx hl (fun k hk => e k hk)
  · have w2 : i < hs.length := by simp only [List.length_cons, List.length_nil] at hi; omega
    rw [getD_app_l w2]
    exact H i w2
theorem rcP_ok {hs : List GS} (ok : ∀ x ∈ hs, okG x) : ∀ x ∈ rcP hs, okG x := by
  intro x hx
  unfold rcP at hx
  split at hx
  · exact ok x (List.mem_of_mem_drop hx)
  · exact ok x hx
theorem rcP_no {hs : List GS} (h : ¬ hs.length = 6) : rcP hs = hs := by unfold rcP; rw [if_neg h]

set_option maxHeartbeats 1000000 in
set_option maxRecDepth 100000 in
theorem c_X7_record {l : Launch} (hfl : l.flags = flags0) (D : va_G) (g : GT) (z : ZT) (ad : Nat → Nat) (th : Int) (cC : CT) (cT : TT) (cL : LT) (cP : PT) (hs : List GS) (x9 : GS) (hok : ∀ x ∈ hs, okG x) (hh6 : hs.length ≤ 6) (hhs : hisM cC.2.1 hs) (hx9 : stMg cC.1 x9) (hl9 : x9.1.length ≤ 12) : CV l yX7_record wsX7_record 1 21 0 D g z [.ref (ad 0)] (moC g ad th (cC.1, cC.2.1, ((hs.length : Nat) : Int), cC.2.2.2.1, cC.2.2.2.2) cT cL cP) (fun (u9 : NF) => hisM u9 (rcH hs x9)) (fun (u9 : NF) => moC g ad th (cC.1, u9, (((rcH hs x9).length : Nat) : Int), cC.2.2.2.1, cC.2.2.2.2) cT cL cP) 0 0 := by
  refine CV_of hfl (own := RX7) ⟨0, 0, 0, 0⟩ 1 21 0 (by decide +kernel) rfl rfl ⟨by decide, by decide, by decide +kernel⟩ ⟨by decide, by decide⟩ (le_ble rfl) ?_
  intro p e s m below meth c A Q F hin ret
  change J p l e _ s m _ below meth c A D _ Q 0 0 (moC g ad th (cC.1, cC.2.1, ((hs.length : Nat) : Int), cC.2.2.2.1, cC.2.2.2.2) cT cL cP) [(0, .ref (ad 0))] [] 0
  have hr5 := rcP_len hh6
  refine j_aload_n F dX7_record_0 rfl 0 rfl ?_
  refine j_getf F (ref := "CairnGameModel") (C := RX7) (T := TX7) (N := 27) (ci := 7) (index := 63) (v := .int (iI ((hs.length : Nat) : Int))) (fun w h => (List.mem_cons_of_mem _ (List.mem_append_right _ h))) 0 rfl rfl 3 (by decide) (List.mem_cons_of_mem _ (List.mem_append_left _ (List.mem_of_getElem? (i := 0) rfl))) rfl rfl dX7_record_1 ?_
  refine j_bipush F dX7_record_4 (by decide) ?_
  refine j_icmp_ne F (tgt := 48) dX7_record_6 (by decide) ⟨(by unfold rg; omega), (by unfold rg; omega)⟩ (fun c6 => ?_) (fun c6 => ?_)
  · have hp := rcP_no (hs := hs) (by omega)
    have hH2 : hisM cC.2.1 (rcP hs) := by rw [hp]; exact hhs
    refine J.wsEq (ws2 := moC g ad th (cC.1, cC.2.1, (((rcP hs).length : Nat) : Int), cC.2.2.2.1, cC.2.2.2.2) cT cL cP) (by first | (rw [hp]) | (dsimp only; rw [hp])) ?_
    refine j_iconst F dX7_record_48 ?_
    refine j_istore_n F (lv' := [(1, .int (iI 0)), (0, .ref (ad 0))]) dX7_record_49 rfl (by decide) rfl ?_
    refine J.loc [0, 1] rfl ?_
    refine J_loop (σ := Nat × NF) (fun x9 : Nat × NF => match x9 with | (k2, h3) => k2 ≤ 20 ∧ hisM h3 (rcP hs) ∧ ∀ j, j < k2 → h3 (20 * (rcP hs).length + j) = cC.1 j) (fun x9 : Nat × NF => match x9 with | (k2, h3) => 20 - k2) (fun x9 : Nat × NF => match x9 with | (k2, h3) => moC g ad th (cC.1, h3, (((rcP hs).length : Nat) : Int), cC.2.2.2.1, cC.2.2.2.2) cT cL cP) (fun x9 : Nat × NF => match x9 with | (k2, h3) => [(1, .int (iI (k2 : Int))), (0, .ref (ad 0))]) (0, cC.2.1) (by show 0 ≤ 20 ∧ hisM cC.2.1 (rcP hs) ∧ ∀ j, j < 0 → cC.2.1 (20 * (rcP hs).length + j) = cC.1 j; exact ⟨Nat.zero_le _, hH2, fun j hj => absurd hj (Nat.not_lt_zero j)⟩) ?_
    rintro ⟨k2, h3⟩ hI ih50
    have hI : k2 ≤ 20 ∧ hisM h3 (rcP hs) ∧ ∀ j, j < k2 → h3 (20 * (rcP hs).length + j) = cC.1 j := hI
    obtain ⟨j1, j2, j3⟩ := hI
    refine j_iload_n F dX7_record_50 rfl 0 rfl ?_
    refine j_bipush F dX7_record_51 (by decide) ?_
    refine j_icmp_ge F (tgt := 82) dX7_record_53 (by decide) ⟨(by unfold rg; omega), (by unfold rg; omega)⟩ (fun c53 => ?_) (fun c53 => ?_)
    · have ek2 : k2 = 20 := by omega
      have hF : hisM h3 (rcH hs x9) := hisM_push j2 hx9 hl9 (fun k hk => j3 k (by omega))
      refine j_aload_n F dX7_record_82 rfl 1 rfl ?_
      refine j_dup F dX7_record_83 rfl ?_
      refine j_getf F (ref := "CairnGameModel") (C := RX7) (T := TX7) (N := 27) (ci := 7) (index := 63) (v := .int (iI (((rcP hs).length : Nat) : Int))) (fun w h => (List.mem_cons_of_mem _ (List.mem_append_right _ h))) 0 rfl rfl 3 (by decide) (List.mem_cons_of_mem _ (List.mem_append_left _ (List.mem_of_getElem? (i := 0) rfl))) rfl rfl dX7_record_84 ?_
      refine j_iconst F dX7_record_87 ?_
      refine j_iadd F dX7_record_88 ?_
      refine j_putf F (ref := "CairnGameModel") (C := RX7) (T := TX7) (N := 27) (ci := 7) (index := 63) (ty := .int) (ws' := moC g ad th (cC.1, h3, ((((rcP hs).length : Nat) : Int) + 1), cC.2.2.2.1, cC.2.2.2.2) cT cL cP) (fun w h => (List.mem_cons_of_mem _ (List.mem_append_right _ h))) tyX7 tyX7_ok nmX7 0 rfl rfl 3 (by decide) (List.mem_cons_of_mem _ (List.mem_append_left _ (List.mem_of_getElem? (i := 0) rfl))) rfl rfl rfl rfl rfl (lt_ble rfl) rfl dX7_record_89 ?_
      refine J.wsEq (ws2 := moC g ad th (cC.1, h3, (((rcH hs x9).length : Nat) : Int), cC.2.2.2.1, cC.2.2.2.2) cT cL cP) (by first | (rw [show (rcH hs x9).length = (rcP hs).length + 1 from List.length_append]; rfl) | (dsimp only; rw [show (rcH hs x9).length = (rcP hs).length + 1 from List.length_append]; rfl)) ?_
      exact ret h3 0 0 _ _ dX7_record_92 (by decide) (by decide) hF
    · refine j_aload_n F dX7_record_56 rfl 1 rfl ?_
      refine j_getf F (ref := "CairnGameModel") (C := RX7) (T := TX7) (N := 27) (ci := 7) (index := 13) (v := .ref (ad 2)) (fun w h => (List.mem_cons_of_mem _ (List.mem_append_right _ h))) 0 rfl rfl 2 (by decide) (List.mem_cons_of_mem _ (List.mem_append_left _ (List.mem_of_getElem? (i := 1) rfl))) rfl rfl dX7_record_57 ?_
      refine j_aload_n F dX7_record_60 rfl 1 rfl ?_
      refine j_getf F (ref := "CairnGameModel") (C := RX7) (T := TX7) (N := 27) (ci := 7) (index := 63) (v := .int (iI (((rcP hs).length : Nat) : Int))) (fun w h => (List.mem_cons_of_mem _ (List.mem_append_right _ h))) 0 rfl rfl 3 (by decide) (List.mem_cons_of_mem _ (List.mem_append_left _ (List.mem_of_getElem? (i := 0) rfl))) rfl rfl dX7_record_61 ?_
      refine j_bipush F dX7_record_64 (by decide) ?_
      refine j_imul F dX7_record_66 ?_
      refine j_iload_n F dX7_record_67 rfl 0 rfl ?_
      refine j_iadd F dX7_record_68 ?_
      refine j_aload_n F dX7_record_69 rfl 1 rfl ?_
      refine j_getf F (ref := "CairnGameModel") (C := RX7) (T := TX7) (N := 27) (ci := 7) (index := 7) (v := .ref (ad 1)) (fun w h => (List.mem_cons_of_mem _ (List.mem_append_right _ h))) 0 rfl rfl 1 (by decide) (List.mem_cons_of_mem _ (List.mem_append_left _ (List.mem_of_getElem? (i := 2) rfl))) rfl rfl dX7_record_70 ?_
      refine j_iload_n F dX7_record_73 rfl 0 rfl ?_
      refine j_iald F 1 (n := 20) (f := cC.1) rfl k2 (rfl) (by omega) (by decide) dX7_record_74 ?_
      refine j_iast F (ws' := moC g ad th (cC.1, nup h3 ((rcP hs).length * 20 + k2) (cC.1 k2), (((rcP hs).length : Nat) : Int), cC.2.2.2.1, cC.2.2.2.2) cT cL cP) 2 (n := 120) (f := h3) rfl ((rcP hs).length * 20 + k2) (by omega) (by omega) (by decide) rfl dX7_record_75 ?_
      refine j_iinc F (lv' := [(1, .int (iI ((k2 : Int) + 1))), (0, .ref (ad 0))]) dX7_record_76 0 rfl (by decide) rfl ?_
      refine j_goto F (tgt := 50) dX7_record_79 (by decide) ?_
      refine J.loc [0, 1] rfl ?_
      exact ih50 ((k2 + 1), nup h3 ((rcP hs).length * 20 + k2) (cC.1 k2)) (by show (k2 + 1) ≤ 20 ∧ hisM (nup h3 ((rcP hs).length * 20 + k2) (cC.1 k2)) (rcP hs) ∧ ∀ j, j < (k2 + 1) → (nup h3 ((rcP hs).length * 20 + k2) (cC.1 k2)) (20 * (rcP hs).length + j) = cC.1 j; exact ⟨by omega, hisM_keep j2 (rcP_ok hok) (by omega) _, fun j hj => (by by_cases w : j = k2; (rw [w, show 20 * (rcP hs).length + k2 = (rcP hs).length * 20 + k2 by omega, nup_s]); rw [nup_n _ _ (by omega)]; exact j3 j (by omega))⟩) (by show 20 - (k2 + 1) < 20 - k2; omega)
  · have h6 : hs.length = 6 := by omega
    refine j_iconst F dX7_record_9 ?_
    refine j_istore_n F (lv' := [(1, .int (iI 0)), (0, .ref (ad 0))]) dX7_record_10 rfl (by decide) rfl ?_
    refine J.loc [0, 1] rfl ?_
    refine J_loop (σ := Nat × NF) (fun x9 : Nat × NF => match x9 with | (k, h1) => k ≤ 100 ∧ (∀ j, j < k → h1 j = cC.2.1 (j + 20)) ∧ ∀ j, k ≤ j → h1 j = cC.2.1 j) (fun x9 : Nat × NF => match x9 with | (k, h1) => 100 - k) (fun x9 : Nat × NF => match x9 with | (k, h1) => moC g ad th (cC.1, h1, ((hs.length : Nat) : Int), cC.2.2.2.1, cC.2.2.2.2) cT cL cP) (fun x9 : Nat × NF => match x9 with | (k, h1) => [(1, .int (iI (k : Int))), (0, .ref (ad 0))]) (0, cC.2.1) (by show 0 ≤ 100 ∧ (∀ j, j < 0 → cC.2.1 j = cC.2.1 (j + 20)) ∧ ∀ j, 0 ≤ j → cC.2.1 j = cC.2.1 j; exact ⟨Nat.zero_le _, fun j hj => absurd hj (Nat.not_lt_zero j), fun j _ => rfl⟩) ?_
    rintro ⟨k, h1⟩ hI ih11
    have hI : k ≤ 100 ∧ (∀ j, j < k → h1 j = cC.2.1 (j + 20)) ∧ ∀ j, k ≤ j → h1 j = cC.2.1 j := hI
    obtain ⟨i1, i2, i3⟩ := hI
    refine j_iload_n F dX7_record_11 rfl 0 rfl ?_
    refine j_bipush F dX7_record_12 (by decide) ?_
    refine j_icmp_ge F (tgt := 38) dX7_record_14 (by decide) ⟨(by unfold rg; omega), (by unfold rg; omega)⟩ (fun c14 => ?_) (fun c14 => ?_)
    · refine j_aload_n F dX7_record_38 rfl 1 rfl ?_
      refine j_dup F dX7_record_39 rfl ?_
      refine j_getf F (ref := "CairnGameModel") (C := RX7) (T := TX7) (N := 27) (ci := 7) (index := 63) (v := .int (iI ((hs.length : Nat) : Int))) (fun w h => (List.mem_cons_of_mem _ (List.mem_append_right _ h))) 0 rfl rfl 3 (by decide) (List.mem_cons_of_mem _ (List.mem_append_left _ (List.mem_of_getElem? (i := 0) rfl))) rfl rfl dX7_record_40 ?_
      refine j_iconst F dX7_record_43 ?_
      refine j_isub F dX7_record_44 ?_
      refine j_putf F (ref := "CairnGameModel") (C := RX7) (T := TX7) (N := 27) (ci := 7) (index := 63) (ty := .int) (ws' := moC g ad th (cC.1, h1, (((hs.length : Nat) : Int) - 1), cC.2.2.2.1, cC.2.2.2.2) cT cL cP) (fun w h => (List.mem_cons_of_mem _ (List.mem_append_right _ h))) tyX7 tyX7_ok nmX7 0 rfl rfl 3 (by decide) (List.mem_cons_of_mem _ (List.mem_append_left _ (List.mem_of_getElem? (i := 0) rfl))) rfl rfl rfl rfl rfl (lt_ble rfl) rfl dX7_record_45 ?_
      have ek : k = 100 := by omega
      have hH2 : hisM h1 (rcP hs) := hisM_drop hhs hok h6 (fun j hj => i2 j (by omega))
      have hp5 : (rcP hs).length = 5 := by have := rcP_len hh6; rw [if_pos h6] at this; exact this.2
      refine J.wsEq (ws2 := moC g ad th (cC.1, h1, (((rcP hs).length : Nat) : Int), cC.2.2.2.1, cC.2.2.2.2) cT cL cP) (by first | (rw [hp5, h6]; rfl) | (dsimp only; rw [hp5, h6]; rfl)) ?_
      refine j_iconst F dX7_record_48 ?_
      refine j_istore_n F (lv' := [(1, .int (iI 0)), (0, .ref (ad 0))]) dX7_record_49 rfl (by decide) rfl ?_
      refine J.loc [0, 1] rfl ?_
      refine J_loop (σ := Nat × NF) (fun x9 : Nat × NF => match x9 with | (k2, h3) => k2 ≤ 20 ∧ hisM h3 (rcP hs) ∧ ∀ j, j < k2 → h3 (20 * (rcP hs).length + j) = cC.1 j) (fun x9 : Nat × NF => match x9 with | (k2, h3) => 20 - k2) (fun x9 : Nat × NF => match x9 with | (k2, h3) => moC g ad th (cC.1, h3, (((rcP hs).length : Nat) : Int), cC.2.2.2.1, cC.2.2.2.2) cT cL cP) (fun x9 : Nat × NF => match x9 with | (k2, h3) => [(1, .int (iI (k2 : Int))), (0, .ref (ad 0))]) (0, h1) (by show 0 ≤ 20 ∧ hisM h1 (rcP hs) ∧ ∀ j, j < 0 → h1 (20 * (rcP hs).length + j) = cC.1 j; exact ⟨Nat.zero_le _, hH2, fun j hj => absurd hj (Nat.not_lt_zero j)⟩) ?_
      rintro ⟨k2, h3⟩ hI ih50
      have hI : k2 ≤ 20 ∧ hisM h3 (rcP hs) ∧ ∀ j, j < k2 → h3 (20 * (rcP hs).length + j) = cC.1 j := hI
      obtain ⟨j1, j2, j3⟩ := hI
      refine j_iload_n F dX7_record_50 rfl 0 rfl ?_
      refine j_bipush F dX7_record_51 (by decide) ?_
      refine j_icmp_ge F (tgt := 82) dX7_record_53 (by decide) ⟨(by unfold rg; omega), (by unfold rg; omega)⟩ (fun c53 => ?_) (fun c53 => ?_)
      · have ek2 : k2 = 20 := by omega
        have hF : hisM h3 (rcH hs x9) := hisM_push j2 hx9 hl9 (fun k hk => j3 k (by omega))
        refine j_aload_n F dX7_record_82 rfl 1 rfl ?_
        refine j_dup F dX7_record_83 rfl ?_
        refine j_getf F (ref := "CairnGameModel") (C := RX7) (T := TX7) (N := 27) (ci := 7) (index := 63) (v := .int (iI (((rcP hs).length : Nat) : Int))) (fun w h => (List.mem_cons_of_mem _ (List.mem_append_right _ h))) 0 rfl rfl 3 (by decide) (List.mem_cons_of_mem _ (List.mem_append_left _ (List.mem_of_getElem? (i := 0) rfl))) rfl rfl dX7_record_84 ?_
        refine j_iconst F dX7_record_87 ?_
        refine j_iadd F dX7_record_88 ?_
        refine j_putf F (ref := "CairnGameModel") (C := RX7) (T := TX7) (N := 27) (ci := 7) (index := 63) (ty := .int) (ws' := moC g ad th (cC.1, h3, ((((rcP hs).length : Nat) : Int) + 1), cC.2.2.2.1, cC.2.2.2.2) cT cL cP) (fun w h => (List.mem_cons_of_mem _ (List.mem_append_right _ h))) tyX7 tyX7_ok nmX7 0 rfl rfl 3 (by decide) (List.mem_cons_of_mem _ (List.mem_append_left _ (List.mem_of_getElem? (i := 0) rfl))) rfl rfl rfl rfl rfl (lt_ble rfl) rfl dX7_record_89 ?_
        refine J.wsEq (ws2 := moC g ad th (cC.1, h3, (((rcH hs x9).length : Nat) : Int), cC.2.2.2.1, cC.2.2.2.2) cT cL cP) (by first | (rw [show (rcH hs x9).length = (rcP hs).length + 1 from List.length_append]; rfl) | (dsimp only; rw [show (rcH hs x9).length = (rcP hs).length + 1 from List.length_append]; rfl)) ?_
        exact ret h3 0 0 _ _ dX7_record_92 (by decide) (by decide) hF
      · refine j_aload_n F dX7_record_56 rfl 1 rfl ?_
        refine j_getf F (ref := "CairnGameModel") (C := RX7) (T := TX7) (N := 27) (ci := 7) (index := 13) (v := .ref (ad 2)) (fun w h => (List.mem_cons_of_mem _ (List.mem_append_right _ h))) 0 rfl rfl 2 (by decide) (List.mem_cons_of_mem _ (List.mem_append_left _ (List.mem_of_getElem? (i := 1) rfl))) rfl rfl dX7_record_57 ?_
        refine j_aload_n F dX7_record_60 rfl 1 rfl ?_
        refine j_getf F (ref := "CairnGameModel") (C := RX7) (T := TX7) (N := 27) (ci := 7) (index := 63) (v := .int (iI (((rcP hs).length : Nat) : Int))) (fun w h => (List.mem_cons_of_mem _ (List.mem_append_right _ h))) 0 rfl rfl 3 (by decide) (List.mem_cons_of_mem _ (List.mem_append_left _ (List.mem_of_getElem? (i := 0) rfl))) rfl rfl dX7_record_61 ?_
        refine j_bipush F dX7_record_64 (by decide) ?_
        refine j_imul F dX7_record_66 ?_
        refine j_iload_n F dX7_record_67 rfl 0 rfl ?_
        refine j_iadd F dX7_record_68 ?_
        refine j_aload_n F dX7_record_69 rfl 1 rfl ?_
        refine j_getf F (ref := "CairnGameModel") (C := RX7) (T := TX7) (N := 27) (ci := 7) (index := 7) (v := .ref (ad 1)) (fun w h => (List.mem_cons_of_mem _ (List.mem_append_right _ h))) 0 rfl rfl 1 (by decide) (List.mem_cons_of_mem _ (List.mem_append_left _ (List.mem_of_getElem? (i := 2) rfl))) rfl rfl dX7_record_70 ?_
        refine j_iload_n F dX7_record_73 rfl 0 rfl ?_
        refine j_iald F 1 (n := 20) (f := cC.1) rfl k2 (rfl) (by omega) (by decide) dX7_record_74 ?_
        refine j_iast F (ws' := moC g ad th (cC.1, nup h3 ((rcP hs).length * 20 + k2) (cC.1 k2), (((rcP hs).length : Nat) : Int), cC.2.2.2.1, cC.2.2.2.2) cT cL cP) 2 (n := 120) (f := h3) rfl ((rcP hs).length * 20 + k2) (by omega) (by omega) (by decide) rfl dX7_record_75 ?_
        refine j_iinc F (lv' := [(1, .int (iI ((k2 : Int) + 1))), (0, .ref (ad 0))]) dX7_record_76 0 rfl (by decide) rfl ?_
        refine j_goto F (tgt := 50) dX7_record_79 (by decide) ?_
        refine J.loc [0, 1] rfl ?_
        exact ih50 ((k2 + 1), nup h3 ((rcP hs).length * 20 + k2) (cC.1 k2)) (by show (k2 + 1) ≤ 20 ∧ hisM (nup h3 ((rcP hs).length * 20 + k2) (cC.1 k2)) (rcP hs) ∧ ∀ j, j < (k2 + 1) → (nup h3 ((rcP hs).length * 20 + k2) (cC.1 k2)) (20 * (rcP hs).length + j) = cC.1 j; exact ⟨by omega, hisM_keep j2 (rcP_ok hok) (by omega) _, fun j hj => (by by_cases w : j = k2; (rw [w, show 20 * (rcP hs).length + k2 = (rcP hs).length * 20 + k2 by omega, nup_s]); rw [nup_n _ _ (by omega)]; exact j3 j (by omega))⟩) (by show 20 - (k2 + 1) < 20 - k2; omega)
    · refine j_aload_n F dX7_record_17 rfl 1 rfl ?_
      refine j_getf F (ref := "CairnGameModel") (C := RX7) (T := TX7) (N := 27) (ci := 7) (index := 13) (v := .ref (ad 2)) (fun w h => (List.mem_cons_of_mem _ (List.mem_append_right _ h))) 0 rfl rfl 2 (by decide) (List.mem_cons_of_mem _ (List.mem_append_left _ (List.mem_of_getElem? (i := 1) rfl))) rfl rfl dX7_record_18 ?_
      refine j_iload_n F dX7_record_21 rfl 0 rfl ?_
      refine j_aload_n F dX7_record_22 rfl 1 rfl ?_
      refine j_getf F (ref := "CairnGameModel") (C := RX7) (T := TX7) (N := 27) (ci := 7) (index := 13) (v := .ref (ad 2)) (fun w h => (List.mem_cons_of_mem _ (List.mem_append_right _ h))) 0 rfl rfl 2 (by decide) (List.mem_cons_of_mem _ (List.mem_append_left _ (List.mem_of_getElem? (i := 1) rfl))) rfl rfl dX7_record_23 ?_
      refine j_iload_n F dX7_record_26 rfl 0 rfl ?_
      refine j_bipush F dX7_record_27 (by decide) ?_
      refine j_iadd F dX7_record_29 ?_
      refine j_iald F 2 (n := 120) (f := h1) rfl (k + 20) (by omega) (by omega) (by decide) dX7_record_30 ?_
      refine j_iast F (ws' := moC g ad th (cC.1, nup h1 k (h1 (k + 20)), ((hs.length : Nat) : Int), cC.2.2.2.1, cC.2.2.2.2) cT cL cP) 2 (n := 120) (f := h1) rfl k (rfl) (by omega) (by decide) rfl dX7_record_31 ?_
      refine j_iinc F (lv' := [(1, .int (iI ((k : Int) + 1))), (0, .ref (ad 0))]) dX7_record_32 0 rfl (by decide) rfl ?_
      refine j_goto F (tgt := 11) dX7_record_35 (by decide) ?_
      refine J.loc [0, 1] rfl ?_
      exact ih11 ((k + 1), nup h1 k (h1 (k + 20))) (by show (k + 1) ≤ 100 ∧ (∀ j, j < (k + 1) → (nup h1 k (h1 (k + 20))) j = cC.2.1 (j + 20)) ∧ ∀ j, (k + 1) ≤ j → (nup h1 k (h1 (k + 20))) j = cC.2.1 j; exact ⟨by omega, fun j hj => (by by_cases w : j = k; (rw [w, nup_s]; exact i3 (k + 20) (by omega)); rw [nup_n _ _ w]; exact i2 j (by omega)), fun j hj => by rw [nup_n _ _ (by omega)]; exact i3 j (by omega)⟩) (by show 100 - (k + 1) < 100 - k; omega)

theorem st_begin {f f1 : NF} {L : List Nat} {G S M Nn : Nat} {c : C3} (h : stM f L G S M Nn c) (e : ∀ j, j < 4 → f1 j = f j) (z : ∀ j, 4 ≤ j → j < 20 → f1 j = 0) : stM f1 [] G S M Nn (0, 0, 0) := by
  obtain ⟨h0, h1, h2, h3, -⟩ := h
  refine ⟨by rw [e 0 (by decide)]; exact h0, by rw [e 1 (by decide)]; exact h1, by rw [e 2 (by decide)]; exact h2, by rw [e 3 (by decide)]; exact h3, ?_, fun i hi => absurd hi (Nat.not_lt_zero i), ?_, ?_, ?_⟩
  · rw [z 4 (by decide) (by decide)]; rfl
  · rw [z 17 (by decide) (by decide)]; rfl
  · rw [z 18 (by decide) (by decide)]; rfl
  · rw [z 19 (by decide) (by decide)]; rfl
theorem st_add {f : NF} {L : List Nat} {G S M Nn : Nat} {c : C3} (h : stM f L G S M Nn c) (hl : L.length ≤ 11) {x : Int} (hx : 0 ≤ x) : stM (nup (nup f (5 + L.length) x) 4 ((L.length + 1 : Nat) : Int)) (L ++ [x.toNat]) G S M Nn c := by
  obtain ⟨h0, h1, h2, h3, h4, h5, h6, h7, h8⟩ := h
  refine ⟨?_, ?_, ?_, ?_, ?_, fun i hi => ?_, ?_, ?_, ?_⟩
  · rw [nup_n _ _ (by omega), nup_n _ _ (by omega)]; exact h0
  · rw [nup_n _ _ (by omega), nup_n _ _ (by omega)]; exact h1
  · rw [nup_n _ _ (by omega), nup_n _ _ (by omega)]; exact h2
  · rw [nup_n _ _ (by omega), nup_n _ _ (by omega)]; exact h3
  · rw [nup_s, List.length_append]; rfl
  · rw [List.length_append] at hi
    rw [nup_n _ _ (by omega)]
    by_cases w : i = L.length
    · rw [w, nup_s, getD_app_r]; omega
    · have w2 : i < L.length := by simp only [List.length_cons, List.length_nil] at hi; omega
      rw [nup_n _ _ (by omega), getD_app_l w2]
      exact h5 i w2
  · rw [nup_n _ _ (by omega), nup_n _ _ (by omega)]; exact h6
  · rw [nup_n _ _ (by omega), nup_n _ _ (by omega)]; exact h7
  · rw [nup_n _ _ (by omega), nup_n _ _ (by omega)]; exact h8
theorem st_rule {f : NF} {L : List Nat} {G S M Nn : Nat} {c : C3} (h : stM f L G S M Nn c) (p v : Nat) (hp : p < 4) : stM (nup f p (v : Int)) L (if p = 0 then v else G) (if p = 1 then v else S) (if p = 2 then v else M) (if p = 3 then v else Nn) c := by
  obtain ⟨h0, h1, h2, h3, h4, h5, h6, h7, h8⟩ := h
  have key : ∀ (i w : Nat), f i = (w : Int) → nup f p (v : Int) i = (((if p = i then v else w) : Nat) : Int) := by
    intro i w e
    by_cases q : p = i
    · rw [if_pos q, q, nup_s]
    · rw [if_neg q, nup_n _ _ (fun z => q z.symm)]
      exact e
  refine ⟨key 0 G h0, key 1 S h1, key 2 M h2, key 3 Nn h3, ?_, fun i hi => ?_, ?_, ?_, ?_⟩
  · rw [nup_n _ _ (by omega)]; exact h4
  · rw [nup_n _ _ (by omega)]; exact h5 i hi
  · rw [nup_n _ _ (by omega)]; exact h6
  · rw [nup_n _ _ (by omega)]; exact h7
  · rw [nup_n _ _ (by omega)]; exact h8

set_option maxHeartbeats 1000000 in
set_option maxRecDepth 100000 in
theorem c_X7_begin {l : Launch} (hfl : l.flags = flags0) (D : va_G) (g : GT) (z : ZT) (ad : Nat → Nat) (th : Int) (cC : CT) (cT : TT) (cL : LT) (cP : PT) (H : List Nat) (G S M Nn : Nat) (c3 : C3) (hs : List GS) (hH : okH H) (hG : 1 ≤ G ∧ G ≤ 5) (hS : S ≤ 1) (hM : M ≤ 1) (hN : Nn ≤ 1) (hst : stM cC.1 H G S M Nn c3) (hok : ∀ x ∈ hs, okG x) (hh6 : hs.length ≤ 6) (hhs : hisM cC.2.1 hs) : CI l yX7_begin wsX7_begin 2 44 0 D g z [.ref (ad 0)] (moC g ad th (cC.1, cC.2.1, ((hs.length : Nat) : Int), cC.2.2.2.1, cC.2.2.2.2) cT cL cP) (fun (r9 : Int32) (u9 : NF × NF) => (stM u9.1 [] G S M Nn (0, 0, 0) ∧ hisM u9.2 (rcH hs (H, G, S, M, Nn, c3))) ∧ r9 = iI ((sm H : Nat) : Int)) (fun (u9 : NF × NF) => moC g ad 0 (u9.1, u9.2, (((rcH hs (H, G, S, M, Nn, c3)).length : Nat) : Int), cC.2.2.2.1, cC.2.2.2.2) cT cL cP) 0 0 := by
  refine CI_of hfl (own := RX7) ⟨1, 0, 0, 22⟩ 2 44 0 (by decide +kernel) rfl rfl ⟨by decide, by decide, by decide +kernel⟩ ⟨by decide, by decide⟩ (le_ble rfl) (fun _ _ _ => rfl) ?_
  intro p e s m below meth c A Q F ret
  change J p l e _ s m _ below meth c A D _ Q 0 0 (moC g ad th (cC.1, cC.2.1, ((hs.length : Nat) : Int), cC.2.2.2.1, cC.2.2.2.2) cT cL cP) [(0, .ref (ad 0))] [] 0
  have hlen := okH_len hH
  refine j_aload_n F dX7_begin_0 rfl 0 rfl ?_
  refine j_iconst F dX7_begin_1 ?_
  refine j_putf F (ref := "CairnGameModel") (C := RX7) (T := TX7) (N := 27) (ci := 7) (index := 60) (ty := .int) (ws' := moC g ad 0 (cC.1, cC.2.1, ((hs.length : Nat) : Int), cC.2.2.2.1, cC.2.2.2.2) cT cL cP) (fun w h => (List.mem_cons_of_mem _ (List.mem_append_right _ h))) tyX7 tyX7_ok nmX7 0 rfl rfl 0 (by decide) (List.mem_cons_of_mem _ (List.mem_append_left _ (List.mem_of_getElem? (i := 0) rfl))) rfl rfl rfl rfl rfl (lt_ble rfl) rfl dX7_begin_2 ?_
  refine j_aload_n F dX7_begin_5 rfl 0 rfl ?_
  refine j_callV_V F (As := []) (wr := []) (st := []) (c_X7_record hfl D g z ad 0 (cC.1, cC.2.1, ((hs.length : Nat) : Int), cC.2.2.2.1, cC.2.2.2.2) cT cL cP hs (H, G, S, M, Nn, c3) hok hh6 hhs hst hlen) (idx := 113) (C := RX7) gX7_begin_X7_record rfl rfl [0, 1, 2, 3, 4, 5, 6, 7, 8, 9, 10, 11, 12, 13, 14] [] rfl rfl (by decide) (by decide) (by decide) (ci := 7) (q0 := 0) rfl rfl (by decide) (by decide) (le_ble rfl) ⟨by decide, by decide⟩ dX7_begin_6 ?_
  rintro u9 h9
  refine J.wsEq (ws2 := moC g ad 0 (cC.1, u9, (((rcH hs (H, G, S, M, Nn, c3)).length : Nat) : Int), cC.2.2.2.1, cC.2.2.2.2) cT cL cP) rfl ?_
  refine j_aload_n F dX7_begin_9 rfl 0 rfl ?_
  refine j_callV_I F (As := []) (wr := []) (st := []) (c_X7_sum hfl D g z ad 0 (cC.1, u9, (((rcH hs (H, G, S, M, Nn, c3)).length : Nat) : Int), cC.2.2.2.1, cC.2.2.2.2) cT cL cP H G S M Nn c3 hH hG hS hM hN hst) (idx := 116) (C := RX7) gX7_begin_X7_sum rfl rfl [0, 1, 2, 3, 4, 5, 6, 7, 8, 9, 10, 11, 12, 13, 14] [] rfl rfl (by decide) (by decide) (by decide) (ci := 7) (q0 := 0) rfl rfl (by decide) (by decide) (le_ble rfl) ⟨by decide, by decide⟩ dX7_begin_10 ?_
  rintro r8 u8 h8
  subst h8
  refine J.wsEq (ws2 := moC g ad 0 (cC.1, u9, (((rcH hs (H, G, S, M, Nn, c3)).length : Nat) : Int), cC.2.2.2.1, cC.2.2.2.2) cT cL cP) rfl ?_
  refine j_istore_n F (lv' := [(1, .int (iI (((sm H) : Nat) : Int))), (0, .ref (ad 0))]) dX7_begin_13 rfl (by decide) rfl ?_
  refine j_iconst F dX7_begin_14 ?_
  refine j_istore_n F (lv' := [(2, .int (iI 4)), (1, .int (iI (((sm H) : Nat) : Int))), (0, .ref (ad 0))]) dX7_begin_15 rfl (by decide) rfl ?_
  refine J.loc [0, 1, 2] rfl ?_
  refine J_loop (σ := Nat × NF) (fun x9 : Nat × NF => match x9 with | (k, f1) => (4 ≤ k ∧ k ≤ 20) ∧ (∀ j, j < 4 → f1 j = cC.1 j) ∧ ∀ j, 4 ≤ j → j < k → f1 j = 0) (fun x9 : Nat × NF => match x9 with | (k, f1) => 20 - k) (fun x9 : Nat × NF => match x9 with | (k, f1) => moC g ad 0 (f1, u9, (((rcH hs (H, G, S, M, Nn, c3)).length : Nat) : Int), cC.2.2.2.1, cC.2.2.2.2) cT cL cP) (fun x9 : Nat × NF => match x9 with | (k, f1) => [(2, .int (iI (k : Int))), (1, .int (iI (((sm H) : Nat) : Int))), (0, .ref (ad 0))]) (4, cC.1) (by show (4 ≤ 4 ∧ 4 ≤ 20) ∧ (∀ j, j < 4 → cC.1 j = cC.1 j) ∧ ∀ j, 4 ≤ j → j < 4 → cC.1 j = 0; exact ⟨by omega, fun j _ => rfl, fun j a b => absurd a (by omega)⟩) ?_
  rintro ⟨k, f1⟩ hI ih16
  have hI : (4 ≤ k ∧ k ≤ 20) ∧ (∀ j, j < 4 → f1 j = cC.1 j) ∧ ∀ j, 4 ≤ j → j < k → f1 j = 0 := hI
  obtain ⟨i1, i2, i3⟩ := hI
  refine j_iload_n F dX7_begin_16 rfl 0 rfl ?_
  refine j_bipush F dX7_begin_17 (by decide) ?_
  refine j_icmp_ge F (tgt := 35) dX7_begin_19 (by decide) ⟨(by unfold rg; omega), (by unfold rg; omega)⟩ (fun c19 => ?_) (fun c19 => ?_)
  · refine j_iload_n F dX7_begin_35 rfl 1 rfl ?_
    exact ret _ (f1, u9) 0 0 _ _ dX7_begin_36 (by decide) (by decide) (⟨⟨st_begin hst i2 (fun j a b => i3 j a (by omega)), h9⟩, rfl⟩)
  · refine j_aload_n F dX7_begin_22 rfl 2 rfl ?_
    refine j_getf F (ref := "CairnGameModel") (C := RX7) (T := TX7) (N := 27) (ci := 7) (index := 7) (v := .ref (ad 1)) (fun w h => (List.mem_cons_of_mem _ (List.mem_append_right _ h))) 0 rfl rfl 1 (by decide) (List.mem_cons_of_mem _ (List.mem_append_left _ (List.mem_of_getElem? (i := 1) rfl))) rfl rfl dX7_begin_23 ?_
    refine j_iload_n F dX7_begin_26 rfl 0 rfl ?_
    refine j_iconst F dX7_begin_27 ?_
    refine j_iast F (ws' := moC g ad 0 (nup f1 k 0, u9, (((rcH hs (H, G, S, M, Nn, c3)).length : Nat) : Int), cC.2.2.2.1, cC.2.2.2.2) cT cL cP) 1 (n := 20) (f := f1) rfl k (rfl) (by omega) (by decide) rfl dX7_begin_28 ?_
    refine j_iinc F (lv' := [(2, .int (iI ((k : Int) + 1))), (1, .int (iI (((sm H) : Nat) : Int))), (0, .ref (ad 0))]) dX7_begin_29 0 rfl (by decide) rfl ?_
    refine j_goto F (tgt := 16) dX7_begin_32 (by decide) ?_
    refine J.loc [0, 1, 2] rfl ?_
    exact ih16 ((k + 1), nup f1 k 0) (by show (4 ≤ (k + 1) ∧ (k + 1) ≤ 20) ∧ (∀ j, j < 4 → (nup f1 k 0) j = cC.1 j) ∧ ∀ j, 4 ≤ j → j < (k + 1) → (nup f1 k 0) j = 0; exact ⟨by omega, fun j hj => by rw [nup_n _ _ (by omega)]; exact i2 j hj, fun j a b => (by by_cases w : j = k; (rw [w, nup_s]); rw [nup_n _ _ w]; exact i3 j a (by omega))⟩) (by show 20 - (k + 1) < 20 - k; omega)

set_option maxHeartbeats 1000000 in
set_option maxRecDepth 100000 in
theorem c_X7_addHeap {l : Launch} (hfl : l.flags = flags0) (D : va_G) (g : GT) (z : ZT) (ad : Nat → Nat) (th : Int) (cC : CT) (cT : TT) (cL : LT) (cP : PT) (H : List Nat) (G S M Nn : Nat) (c3 : C3) (hs : List GS) (x : Int) (hH : okH H) (hG : 1 ≤ G ∧ G ≤ 5) (hS : S ≤ 1) (hM : M ≤ 1) (hN : Nn ≤ 1) (hst : stM cC.1 H G S M Nn c3) (hok : ∀ x ∈ hs, okG x) (hh6 : hs.length ≤ 6) (hhs : hisM cC.2.1 hs) (hx : 1 ≤ x ∧ x ≤ 12) (hs9 : ((sm H : Nat) : Int) + x ≤ 12) : CI l yX7_addHeap wsX7_addHeap 2 43 1 D g z [.ref (ad 0), .int (iI x)] (moC g ad th (cC.1, cC.2.1, ((hs.length : Nat) : Int), cC.2.2.2.1, cC.2.2.2.2) cT cL cP) (fun (r9 : Int32) (u9 : NF × NF) => (stM u9.1 (H ++ [x.toNat]) G S M Nn c3 ∧ hisM u9.2 (rcH hs (H, G, S, M, Nn, c3))) ∧ r9 = iI ((H.length : Int) + 1)) (fun (u9 : NF × NF) => moC g ad 0 (u9.1, u9.2, (((rcH hs (H, G, S, M, Nn, c3)).length : Nat) : Int), cC.2.2.2.1, cC.2.2.2.2) cT cL cP) 0 0 := by
  refine CI_of hfl (own := RX7) ⟨1, 0, 0, 22⟩ 2 43 1 (by decide +kernel) rfl rfl ⟨by decide, by decide, by decide +kernel⟩ ⟨by decide, by decide⟩ (le_ble rfl) (fun _ _ _ => rfl) ?_
  intro p e s m below meth c A Q F ret
  change J p l e _ s m _ below meth c A D _ Q 0 0 (moC g ad th (cC.1, cC.2.1, ((hs.length : Nat) : Int), cC.2.2.2.1, cC.2.2.2.2) cT cL cP) [(0, .ref (ad 0)), (1, .int (iI x))] [] 0
  have hlen := okH_len hH
  have hln := sm_len hH.1
  refine j_aload_n F dX7_addHeap_0 rfl 0 rfl ?_
  refine j_iload_n F dX7_addHeap_1 rfl 1 rfl ?_
  refine j_iconst F dX7_addHeap_2 ?_
  refine j_bipush F dX7_addHeap_3 (by decide) ?_
  refine j_callS_I F (As := [.int (iI x), .int (iI 1), .int (iI 12)]) (wr := moC g ad th (cC.1, cC.2.1, ((hs.length : Nat) : Int), cC.2.2.2.1, cC.2.2.2.2) cT cL cP) (st := [.ref (ad 0)]) (c_X7_within hfl D g z x 1 12 (by unfold rg; omega) (by unfold rg; omega) (by unfold rg; omega)) (idx := 119) gX7_addHeap_X7_within rfl [] [0, 1, 2, 3, 4, 5, 6, 7, 8, 9, 10, 11, 12, 13, 14] rfl rfl (by decide) (by decide) (by decide)  (by decide) (by decide) (le_ble rfl) ⟨by decide, by decide⟩ dX7_addHeap_5 ?_
  rintro r7 u7 h7
  subst h7
  refine J.wsEq (ws2 := moC g ad th (cC.1, cC.2.1, ((hs.length : Nat) : Int), cC.2.2.2.1, cC.2.2.2.2) cT cL cP) rfl ?_
  refine j_ifb_ne F (tgt := 15) dX7_addHeap_8 (by decide)  (fun c8 => ?_) (fun h9 => by exfalso; omega)
  refine j_aload_n F dX7_addHeap_15 rfl 0 rfl ?_
  refine j_callV_I F (As := []) (wr := []) (st := [.ref (ad 0)]) (c_X7_sum hfl D g z ad th (cC.1, cC.2.1, ((hs.length : Nat) : Int), cC.2.2.2.1, cC.2.2.2.2) cT cL cP H G S M Nn c3 hH hG hS hM hN hst) (idx := 116) (C := RX7) gX7_addHeap_X7_sum rfl rfl [0, 1, 2, 3, 4, 5, 6, 7, 8, 9, 10, 11, 12, 13, 14] [] rfl rfl (by decide) (by decide) (by decide) (ci := 7) (q0 := 0) rfl rfl (by decide) (by decide) (le_ble rfl) ⟨by decide, by decide⟩ dX7_addHeap_16 ?_
  rintro r8 u8 h8
  subst h8
  refine J.wsEq (ws2 := moC g ad th (cC.1, cC.2.1, ((hs.length : Nat) : Int), cC.2.2.2.1, cC.2.2.2.2) cT cL cP) rfl ?_
  refine j_iload_n F dX7_addHeap_19 rfl 1 rfl ?_
  refine j_iadd F dX7_addHeap_20 ?_
  refine j_bipush F dX7_addHeap_21 (by decide) ?_
  refine j_icmp_le F (tgt := 30) dX7_addHeap_23 (by decide) ⟨(by unfold rg; omega), (by unfold rg; omega)⟩ (fun c23 => ?_) (fun h9 => by exfalso; omega)
  refine j_iconst F dX7_addHeap_30 ?_
  refine j_putf F (ref := "CairnGameModel") (C := RX7) (T := TX7) (N := 27) (ci := 7) (index := 60) (ty := .int) (ws' := moC g ad 0 (cC.1, cC.2.1, ((hs.length : Nat) : Int), cC.2.2.2.1, cC.2.2.2.2) cT cL cP) (fun w h => (List.mem_cons_of_mem _ (List.mem_append_right _ h))) tyX7 tyX7_ok nmX7 0 rfl rfl 0 (by decide) (List.mem_cons_of_mem _ (List.mem_append_left _ (List.mem_of_getElem? (i := 0) rfl))) rfl rfl rfl rfl rfl (lt_ble rfl) rfl dX7_addHeap_31 ?_
  refine j_aload_n F dX7_addHeap_34 rfl 0 rfl ?_
  refine j_getf F (ref := "CairnGameModel") (C := RX7) (T := TX7) (N := 27) (ci := 7) (index := 60) (v := .int (iI 0)) (fun w h => (List.mem_cons_of_mem _ (List.mem_append_right _ h))) 0 rfl rfl 0 (by decide) (List.mem_cons_of_mem _ (List.mem_append_left _ (List.mem_of_getElem? (i := 0) rfl))) rfl rfl dX7_addHeap_35 ?_
  refine j_if_le F (tgt := 43) dX7_addHeap_38 (by decide) (by unfold rg; omega) (fun c38 => ?_) (fun h9 => by exfalso; omega)
  refine j_aload_n F dX7_addHeap_43 rfl 0 rfl ?_
  refine j_callV_V F (As := []) (wr := []) (st := []) (c_X7_record hfl D g z ad 0 (cC.1, cC.2.1, ((hs.length : Nat) : Int), cC.2.2.2.1, cC.2.2.2.2) cT cL cP hs (H, G, S, M, Nn, c3) hok hh6 hhs hst hlen) (idx := 113) (C := RX7) gX7_addHeap_X7_record rfl rfl [0, 1, 2, 3, 4, 5, 6, 7, 8, 9, 10, 11, 12, 13, 14] [] rfl rfl (by decide) (by decide) (by decide) (ci := 7) (q0 := 0) rfl rfl (by decide) (by decide) (le_ble rfl) ⟨by decide, by decide⟩ dX7_addHeap_44 ?_
  rintro u9 h9
  refine J.wsEq (ws2 := moC g ad 0 (cC.1, u9, (((rcH hs (H, G, S, M, Nn, c3)).length : Nat) : Int), cC.2.2.2.1, cC.2.2.2.2) cT cL cP) rfl ?_
  refine j_aload_n F dX7_addHeap_47 rfl 0 rfl ?_
  refine j_getf F (ref := "CairnGameModel") (C := RX7) (T := TX7) (N := 27) (ci := 7) (index := 7) (v := .ref (ad 1)) (fun w h => (List.mem_cons_of_mem _ (List.mem_append_right _ h))) 0 rfl rfl 1 (by decide) (List.mem_cons_of_mem _ (List.mem_append_left _ (List.mem_of_getElem? (i := 1) rfl))) rfl rfl dX7_addHeap_48 ?_
  refine j_iconst F dX7_addHeap_51 ?_
  refine j_aload_n F dX7_addHeap_52 rfl 0 rfl ?_
  refine j_getf F (ref := "CairnGameModel") (C := RX7) (T := TX7) (N := 27) (ci := 7) (index := 7) (v := .ref (ad 1)) (fun w h => (List.mem_cons_of_mem _ (List.mem_append_right _ h))) 0 rfl rfl 1 (by decide) (List.mem_cons_of_mem _ (List.mem_append_left _ (List.mem_of_getElem? (i := 1) rfl))) rfl rfl dX7_addHeap_53 ?_
  refine j_iconst F dX7_addHeap_56 ?_
  refine j_iald F 1 (n := 20) (f := cC.1) rfl 4 (by decide) (by decide) (by decide) dX7_addHeap_57 ?_
  refine J.top (congrArg iI (show cC.1 4 = ((H.length : Nat) : Int) from hst.2.2.2.2.1)) ?_
  refine j_iadd F dX7_addHeap_58 ?_
  refine j_iload_n F dX7_addHeap_59 rfl 1 rfl ?_
  refine j_iast F (ws' := moC g ad 0 (nup cC.1 (5 + H.length) x, u9, (((rcH hs (H, G, S, M, Nn, c3)).length : Nat) : Int), cC.2.2.2.1, cC.2.2.2.2) cT cL cP) 1 (n := 20) (f := cC.1) rfl (5 + H.length) (by omega) (by omega) (by decide) rfl dX7_addHeap_60 ?_
  refine j_aload_n F dX7_addHeap_61 rfl 0 rfl ?_
  refine j_getf F (ref := "CairnGameModel") (C := RX7) (T := TX7) (N := 27) (ci := 7) (index := 7) (v := .ref (ad 1)) (fun w h => (List.mem_cons_of_mem _ (List.mem_append_right _ h))) 0 rfl rfl 1 (by decide) (List.mem_cons_of_mem _ (List.mem_append_left _ (List.mem_of_getElem? (i := 1) rfl))) rfl rfl dX7_addHeap_62 ?_
  refine j_iconst F dX7_addHeap_65 ?_
  refine j_dup2 F dX7_addHeap_66 rfl rfl ?_
  refine j_iald F 1 (n := 20) (f := (nup cC.1 (5 + H.length) x)) rfl 4 (by decide) (by decide) (by decide) dX7_addHeap_67 ?_
  refine J.top (congrArg iI (show (nup cC.1 (5 + H.length) x) 4 = ((H.length : Nat) : Int) from by rw [nup_n _ _ (by omega)]; exact hst.2.2.2.2.1)) ?_
  refine j_iconst F dX7_addHeap_68 ?_
  refine j_iadd F dX7_addHeap_69 ?_
  refine j_iast F (ws' := moC g ad 0 (nup (nup cC.1 (5 + H.length) x) 4 (((H.length : Nat) : Int) + 1), u9, (((rcH hs (H, G, S, M, Nn, c3)).length : Nat) : Int), cC.2.2.2.1, cC.2.2.2.2) cT cL cP) 1 (n := 20) (f := (nup cC.1 (5 + H.length) x)) rfl 4 (by decide) (by decide) (by decide) rfl dX7_addHeap_70 ?_
  refine j_aload_n F dX7_addHeap_71 rfl 0 rfl ?_
  refine j_getf F (ref := "CairnGameModel") (C := RX7) (T := TX7) (N := 27) (ci := 7) (index := 7) (v := .ref (ad 1)) (fun w h => (List.mem_cons_of_mem _ (List.mem_append_right _ h))) 0 rfl rfl 1 (by decide) (List.mem_cons_of_mem _ (List.mem_append_left _ (List.mem_of_getElem? (i := 1) rfl))) rfl rfl dX7_addHeap_72 ?_
  refine j_iconst F dX7_addHeap_75 ?_
  refine j_iald F 1 (n := 20) (f := (nup (nup cC.1 (5 + H.length) x) 4 (((H.length : Nat) : Int) + 1))) rfl 4 (by decide) (by decide) (by decide) dX7_addHeap_76 ?_
  refine J.top (congrArg iI (show (nup (nup cC.1 (5 + H.length) x) 4 (((H.length : Nat) : Int) + 1)) 4 = (((H.length + 1) : Nat) : Int) from nup_s _ _ _)) ?_
  exact ret _ (nup (nup cC.1 (5 + H.length) x) 4 ((H.length + 1 : Nat) : Int), u9) 0 0 _ _ dX7_addHeap_77 (by decide) (by decide) (⟨⟨st_add hst (by omega) (by omega), h9⟩, rfl⟩)

set_option maxHeartbeats 1000000 in
set_option maxRecDepth 100000 in
theorem c_X7_addHeap_1 {l : Launch} (hfl : l.flags = flags0) (D : va_G) (g : GT) (z : ZT) (ad : Nat → Nat) (th : Int) (cC : CT) (cT : TT) (cL : LT) (cP : PT) (H : List Nat) (G S M Nn : Nat) (c3 : C3) (hs : List GS) (x : Int) (hH : okH H) (hG : 1 ≤ G ∧ G ≤ 5) (hS : S ≤ 1) (hM : M ≤ 1) (hN : Nn ≤ 1) (hst : stM cC.1 H G S M Nn c3) (hok : ∀ x ∈ hs, okG x) (hh6 : hs.length ≤ 6) (hhs : hisM cC.2.1 hs) (hx : rg x) (hn : ¬ (1 ≤ x ∧ x ≤ 12)) : CI l yX7_addHeap wsX7_addHeap 2 43 1 D g z [.ref (ad 0), .int (iI x)] (moC g ad th (cC.1, cC.2.1, ((hs.length : Nat) : Int), cC.2.2.2.1, cC.2.2.2.2) cT cL cP) (fun (r9 : Int32) (u9 : Unit) => True) (fun (u9 : Unit) => moC g ad 1 (cC.1, cC.2.1, ((hs.length : Nat) : Int), cC.2.2.2.1, cC.2.2.2.2) cT cL cP) 0 0 := by
  refine CI_of hfl (own := RX7) ⟨1, 0, 0, 22⟩ 2 43 1 (by decide +kernel) rfl rfl ⟨by decide, by decide, by decide +kernel⟩ ⟨by decide, by decide⟩ (le_ble rfl) (fun _ _ _ => rfl) ?_
  intro p e s m below meth c A Q F ret
  change J p l e _ s m _ below meth c A D _ Q 0 0 (moC g ad th (cC.1, cC.2.1, ((hs.length : Nat) : Int), cC.2.2.2.1, cC.2.2.2.2) cT cL cP) [(0, .ref (ad 0)), (1, .int (iI x))] [] 0
  have hlen := okH_len hH
  refine j_aload_n F dX7_addHeap_0 rfl 0 rfl ?_
  refine j_iload_n F dX7_addHeap_1 rfl 1 rfl ?_
  refine j_iconst F dX7_addHeap_2 ?_
  refine j_bipush F dX7_addHeap_3 (by decide) ?_
  refine j_callS_I F (As := [.int (iI x), .int (iI 1), .int (iI 12)]) (wr := moC g ad th (cC.1, cC.2.1, ((hs.length : Nat) : Int), cC.2.2.2.1, cC.2.2.2.2) cT cL cP) (st := [.ref (ad 0)]) (c_X7_within hfl D g z x 1 12 hx (by unfold rg; omega) (by unfold rg; omega)) (idx := 119) gX7_addHeap_X7_within rfl [] [0, 1, 2, 3, 4, 5, 6, 7, 8, 9, 10, 11, 12, 13, 14] rfl rfl (by decide) (by decide) (by decide)  (by decide) (by decide) (le_ble rfl) ⟨by decide, by decide⟩ dX7_addHeap_5 ?_
  rintro r7 u7 h7
  subst h7
  refine J.wsEq (ws2 := moC g ad th (cC.1, cC.2.1, ((hs.length : Nat) : Int), cC.2.2.2.1, cC.2.2.2.2) cT cL cP) rfl ?_
  refine j_ifb_ne F (tgt := 15) dX7_addHeap_8 (by decide)  (fun h9 => by exfalso; omega) (fun c8 => ?_)
  refine j_iconst F dX7_addHeap_11 ?_
  refine j_goto F (tgt := 31) dX7_addHeap_12 (by decide) ?_
  refine j_putf F (ref := "CairnGameModel") (C := RX7) (T := TX7) (N := 27) (ci := 7) (index := 60) (ty := .int) (ws' := moC g ad 1 (cC.1, cC.2.1, ((hs.length : Nat) : Int), cC.2.2.2.1, cC.2.2.2.2) cT cL cP) (fun w h => (List.mem_cons_of_mem _ (List.mem_append_right _ h))) tyX7 tyX7_ok nmX7 0 rfl rfl 0 (by decide) (List.mem_cons_of_mem _ (List.mem_append_left _ (List.mem_of_getElem? (i := 0) rfl))) rfl rfl rfl rfl rfl (lt_ble rfl) rfl dX7_addHeap_31 ?_
  refine j_aload_n F dX7_addHeap_34 rfl 0 rfl ?_
  refine j_getf F (ref := "CairnGameModel") (C := RX7) (T := TX7) (N := 27) (ci := 7) (index := 60) (v := .int (iI 1)) (fun w h => (List.mem_cons_of_mem _ (List.mem_append_right _ h))) 0 rfl rfl 0 (by decide) (List.mem_cons_of_mem _ (List.mem_append_left _ (List.mem_of_getElem? (i := 0) rfl))) rfl rfl dX7_addHeap_35 ?_
  refine j_if_le F (tgt := 43) dX7_addHeap_38 (by decide) (by unfold rg; omega) (fun h9 => by exfalso; omega) (fun c38 => ?_)
  refine j_iconst F dX7_addHeap_41 ?_
  exact ret _ () 0 0 _ _ dX7_addHeap_42 (by decide) (by decide) trivial

set_option maxHeartbeats 1000000 in
set_option maxRecDepth 100000 in
theorem c_X7_addHeap_2 {l : Launch} (hfl : l.flags = flags0) (D : va_G) (g : GT) (z : ZT) (ad : Nat → Nat) (th : Int) (cC : CT) (cT : TT) (cL : LT) (cP : PT) (H : List Nat) (G S M Nn : Nat) (c3 : C3) (hs : List GS) (x : Int) (hH : okH H) (hG : 1 ≤ G ∧ G ≤ 5) (hS : S ≤ 1) (hM : M ≤ 1) (hN : Nn ≤ 1) (hst : stM cC.1 H G S M Nn c3) (hok : ∀ x ∈ hs, okG x) (hh6 : hs.length ≤ 6) (hhs : hisM cC.2.1 hs) (hx : 1 ≤ x ∧ x ≤ 12) (hs9 : 12 < ((sm H : Nat) : Int) + x) : CI l yX7_addHeap wsX7_addHeap 2 43 1 D g z [.ref (ad 0), .int (iI x)] (moC g ad th (cC.1, cC.2.1, ((hs.length : Nat) : Int), cC.2.2.2.1, cC.2.2.2.2) cT cL cP) (fun (r9 : Int32) (u9 : Unit) => True) (fun (u9 : Unit) => moC g ad 2 (cC.1, cC.2.1, ((hs.length : Nat) : Int), cC.2.2.2.1, cC.2.2.2.2) cT cL cP) 0 0 := by
  refine CI_of hfl (own := RX7) ⟨1, 0, 0, 22⟩ 2 43 1 (by decide +kernel) rfl rfl ⟨by decide, by decide, by decide +kernel⟩ ⟨by decide, by decide⟩ (le_ble rfl) (fun _ _ _ => rfl) ?_
  intro p e s m below meth c A Q F ret
  change J p l e _ s m _ below meth c A D _ Q 0 0 (moC g ad th (cC.1, cC.2.1, ((hs.length : Nat) : Int), cC.2.2.2.1, cC.2.2.2.2) cT cL cP) [(0, .ref (ad 0)), (1, .int (iI x))] [] 0
  have hlen := okH_len hH
  have hln := hH.2
  refine j_aload_n F dX7_addHeap_0 rfl 0 rfl ?_
  refine j_iload_n F dX7_addHeap_1 rfl 1 rfl ?_
  refine j_iconst F dX7_addHeap_2 ?_
  refine j_bipush F dX7_addHeap_3 (by decide) ?_
  refine j_callS_I F (As := [.int (iI x), .int (iI 1), .int (iI 12)]) (wr := moC g ad th (cC.1, cC.2.1, ((hs.length : Nat) : Int), cC.2.2.2.1, cC.2.2.2.2) cT cL cP) (st := [.ref (ad 0)]) (c_X7_within hfl D g z x 1 12 (by unfold rg; omega) (by unfold rg; omega) (by unfold rg; omega)) (idx := 119) gX7_addHeap_X7_within rfl [] [0, 1, 2, 3, 4, 5, 6, 7, 8, 9, 10, 11, 12, 13, 14] rfl rfl (by decide) (by decide) (by decide)  (by decide) (by decide) (le_ble rfl) ⟨by decide, by decide⟩ dX7_addHeap_5 ?_
  rintro r7 u7 h7
  subst h7
  refine J.wsEq (ws2 := moC g ad th (cC.1, cC.2.1, ((hs.length : Nat) : Int), cC.2.2.2.1, cC.2.2.2.2) cT cL cP) rfl ?_
  refine j_ifb_ne F (tgt := 15) dX7_addHeap_8 (by decide)  (fun c8 => ?_) (fun h9 => by exfalso; omega)
  refine j_aload_n F dX7_addHeap_15 rfl 0 rfl ?_
  refine j_callV_I F (As := []) (wr := []) (st := [.ref (ad 0)]) (c_X7_sum hfl D g z ad th (cC.1, cC.2.1, ((hs.length : Nat) : Int), cC.2.2.2.1, cC.2.2.2.2) cT cL cP H G S M Nn c3 hH hG hS hM hN hst) (idx := 116) (C := RX7) gX7_addHeap_X7_sum rfl rfl [0, 1, 2, 3, 4, 5, 6, 7, 8, 9, 10, 11, 12, 13, 14] [] rfl rfl (by decide) (by decide) (by decide) (ci := 7) (q0 := 0) rfl rfl (by decide) (by decide) (le_ble rfl) ⟨by decide, by decide⟩ dX7_addHeap_16 ?_
  rintro r8 u8 h8
  subst h8
  refine J.wsEq (ws2 := moC g ad th (cC.1, cC.2.1, ((hs.length : Nat) : Int), cC.2.2.2.1, cC.2.2.2.2) cT cL cP) rfl ?_
  refine j_iload_n F dX7_addHeap_19 rfl 1 rfl ?_
  refine j_iadd F dX7_addHeap_20 ?_
  refine j_bipush F dX7_addHeap_21 (by decide) ?_
  refine j_icmp_le F (tgt := 30) dX7_addHeap_23 (by decide) ⟨(by unfold rg; omega), (by unfold rg; omega)⟩ (fun h9 => by exfalso; omega) (fun c23 => ?_)
  refine j_iconst F dX7_addHeap_26 ?_
  refine j_goto F (tgt := 31) dX7_addHeap_27 (by decide) ?_
  refine j_putf F (ref := "CairnGameModel") (C := RX7) (T := TX7) (N := 27) (ci := 7) (index := 60) (ty := .int) (ws' := moC g ad 2 (cC.1, cC.2.1, ((hs.length : Nat) : Int), cC.2.2.2.1, cC.2.2.2.2) cT cL cP) (fun w h => (List.mem_cons_of_mem _ (List.mem_append_right _ h))) tyX7 tyX7_ok nmX7 0 rfl rfl 0 (by decide) (List.mem_cons_of_mem _ (List.mem_append_left _ (List.mem_of_getElem? (i := 0) rfl))) rfl rfl rfl rfl rfl (lt_ble rfl) rfl dX7_addHeap_31 ?_
  refine j_aload_n F dX7_addHeap_34 rfl 0 rfl ?_
  refine j_getf F (ref := "CairnGameModel") (C := RX7) (T := TX7) (N := 27) (ci := 7) (index := 60) (v := .int (iI 2)) (fun w h => (List.mem_cons_of_mem _ (List.mem_append_right _ h))) 0 rfl rfl 0 (by decide) (List.mem_cons_of_mem _ (List.mem_append_left _ (List.mem_of_getElem? (i := 0) rfl))) rfl rfl dX7_addHeap_35 ?_
  refine j_if_le F (tgt := 43) dX7_addHeap_38 (by decide) (by unfold rg; omega) (fun h9 => by exfalso; omega) (fun c38 => ?_)
  refine j_iconst F dX7_addHeap_41 ?_
  exact ret _ () 0 0 _ _ dX7_addHeap_42 (by decide) (by decide) trivial

set_option maxHeartbeats 1000000 in
set_option maxRecDepth 100000 in
theorem c_X7_setGreatestTake {l : Launch} (hfl : l.flags = flags0) (D : va_G) (g : GT) (z : ZT) (ad : Nat → Nat) (th : Int) (cC : CT) (cT : TT) (cL : LT) (cP : PT) (H : List Nat) (G S M Nn : Nat) (c3 : C3) (hs : List GS) (x : Int) (hH : okH H) (hG : 1 ≤ G ∧ G ≤ 5) (hS : S ≤ 1) (hM : M ≤ 1) (hN : Nn ≤ 1) (hst : stM cC.1 H G S M Nn c3) (hok : ∀ x ∈ hs, okG x) (hh6 : hs.length ≤ 6) (hhs : hisM cC.2.1 hs) (hx : 1 ≤ x ∧ x ≤ 5) : CI l yX7_setGreatestTake wsX7_setGreatestTake 2 44 1 D g z [.ref (ad 0), .int (iI x)] (moC g ad th (cC.1, cC.2.1, ((hs.length : Nat) : Int), cC.2.2.2.1, cC.2.2.2.2) cT cL cP) (fun (r9 : Int32) (u9 : NF × NF) => (stM u9.1 H x.toNat S M Nn c3 ∧ hisM u9.2 (rcH hs (H, G, S, M, Nn, c3))) ∧ r9 = iI (G : Int)) (fun (u9 : NF × NF) => moC g ad 0 (u9.1, u9.2, (((rcH hs (H, G, S, M, Nn, c3)).length : Nat) : Int), cC.2.2.2.1, cC.2.2.2.2) cT cL cP) 0 0 := by
  refine CI_of hfl (own := RX7) ⟨1, 0, 0, 22⟩ 2 44 1 (by decide +kernel) rfl rfl ⟨by decide, by decide, by decide +kernel⟩ ⟨by decide, by decide⟩ (le_ble rfl) (fun _ _ _ => rfl) ?_
  intro p e s m below meth c A Q F ret
  change J p l e _ s m _ below meth c A D _ Q 0 0 (moC g ad th (cC.1, cC.2.1, ((hs.length : Nat) : Int), cC.2.2.2.1, cC.2.2.2.2) cT cL cP) [(0, .ref (ad 0)), (1, .int (iI x))] [] 0
  have hlen := okH_len hH
  refine j_aload_n F dX7_setGreatestTake_0 rfl 0 rfl ?_
  refine j_iload_n F dX7_setGreatestTake_1 rfl 1 rfl ?_
  refine j_iconst F dX7_setGreatestTake_2 ?_
  refine j_iconst F dX7_setGreatestTake_3 ?_
  refine j_callS_I F (As := [.int (iI x), .int (iI 1), .int (iI 5)]) (wr := moC g ad th (cC.1, cC.2.1, ((hs.length : Nat) : Int), cC.2.2.2.1, cC.2.2.2.2) cT cL cP) (st := [.ref (ad 0)]) (c_X7_within hfl D g z x 1 5 (by unfold rg; omega) (by unfold rg; omega) (by unfold rg; omega)) (idx := 119) gX7_setGreatestTake_X7_within rfl [] [0, 1, 2, 3, 4, 5, 6, 7, 8, 9, 10, 11, 12, 13, 14] rfl rfl (by decide) (by decide) (by decide)  (by decide) (by decide) (le_ble rfl) ⟨by decide, by decide⟩ dX7_setGreatestTake_4 ?_
  rintro r7 u7 h7
  subst h7
  refine J.wsEq (ws2 := moC g ad th (cC.1, cC.2.1, ((hs.length : Nat) : Int), cC.2.2.2.1, cC.2.2.2.2) cT cL cP) rfl ?_
  refine j_ifb_eq F (tgt := 14) dX7_setGreatestTake_7 (by decide)  (fun h9 => by exfalso; omega) (fun c7 => ?_)
  refine j_iconst F dX7_setGreatestTake_10 ?_
  refine j_goto F (tgt := 15) dX7_setGreatestTake_11 (by decide) ?_
  refine j_putf F (ref := "CairnGameModel") (C := RX7) (T := TX7) (N := 27) (ci := 7) (index := 60) (ty := .int) (ws' := moC g ad 0 (cC.1, cC.2.1, ((hs.length : Nat) : Int), cC.2.2.2.1, cC.2.2.2.2) cT cL cP) (fun w h => (List.mem_cons_of_mem _ (List.mem_append_right _ h))) tyX7 tyX7_ok nmX7 0 rfl rfl 0 (by decide) (List.mem_cons_of_mem _ (List.mem_append_left _ (List.mem_of_getElem? (i := 0) rfl))) rfl rfl rfl rfl rfl (lt_ble rfl) rfl dX7_setGreatestTake_15 ?_
  refine j_aload_n F dX7_setGreatestTake_18 rfl 0 rfl ?_
  refine j_getf F (ref := "CairnGameModel") (C := RX7) (T := TX7) (N := 27) (ci := 7) (index := 60) (v := .int (iI 0)) (fun w h => (List.mem_cons_of_mem _ (List.mem_append_right _ h))) 0 rfl rfl 0 (by decide) (List.mem_cons_of_mem _ (List.mem_append_left _ (List.mem_of_getElem? (i := 0) rfl))) rfl rfl dX7_setGreatestTake_19 ?_
  refine j_if_le F (tgt := 27) dX7_setGreatestTake_22 (by decide) (by unfold rg; omega) (fun c22 => ?_) (fun h9 => by exfalso; omega)
  refine j_aload_n F dX7_setGreatestTake_27 rfl 0 rfl ?_
  refine j_callV_V F (As := []) (wr := []) (st := []) (c_X7_record hfl D g z ad 0 (cC.1, cC.2.1, ((hs.length : Nat) : Int), cC.2.2.2.1, cC.2.2.2.2) cT cL cP hs (H, G, S, M, Nn, c3) hok hh6 hhs hst hlen) (idx := 113) (C := RX7) gX7_setGreatestTake_X7_record rfl rfl [0, 1, 2, 3, 4, 5, 6, 7, 8, 9, 10, 11, 12, 13, 14] [] rfl rfl (by decide) (by decide) (by decide) (ci := 7) (q0 := 0) rfl rfl (by decide) (by decide) (le_ble rfl) ⟨by decide, by decide⟩ dX7_setGreatestTake_28 ?_
  rintro u9 h9
  refine J.wsEq (ws2 := moC g ad 0 (cC.1, u9, (((rcH hs (H, G, S, M, Nn, c3)).length : Nat) : Int), cC.2.2.2.1, cC.2.2.2.2) cT cL cP) rfl ?_
  refine j_aload_n F dX7_setGreatestTake_31 rfl 0 rfl ?_
  refine j_getf F (ref := "CairnGameModel") (C := RX7) (T := TX7) (N := 27) (ci := 7) (index := 7) (v := .ref (ad 1)) (fun w h => (List.mem_cons_of_mem _ (List.mem_append_right _ h))) 0 rfl rfl 1 (by decide) (List.mem_cons_of_mem _ (List.mem_append_left _ (List.mem_of_getElem? (i := 1) rfl))) rfl rfl dX7_setGreatestTake_32 ?_
  refine j_iconst F dX7_setGreatestTake_35 ?_
  refine j_iald F 1 (n := 20) (f := cC.1) rfl 0 (by decide) (by decide) (by decide) dX7_setGreatestTake_36 ?_
  refine J.top (congrArg iI (show cC.1 0 = (G : Int) from hst.1)) ?_
  refine j_istore_n F (lv' := [(2, .int (iI (G : Int))), (0, .ref (ad 0)), (1, .int (iI x))]) dX7_setGreatestTake_37 rfl (by decide) rfl ?_
  refine j_aload_n F dX7_setGreatestTake_38 rfl 1 rfl ?_
  refine j_getf F (ref := "CairnGameModel") (C := RX7) (T := TX7) (N := 27) (ci := 7) (index := 7) (v := .ref (ad 1)) (fun w h => (List.mem_cons_of_mem _ (List.mem_append_right _ h))) 0 rfl rfl 1 (by decide) (List.mem_cons_of_mem _ (List.mem_append_left _ (List.mem_of_getElem? (i := 1) rfl))) rfl rfl dX7_setGreatestTake_39 ?_
  refine j_iconst F dX7_setGreatestTake_42 ?_
  refine j_iload_n F dX7_setGreatestTake_43 rfl 2 rfl ?_
  refine J.top (congrArg iI (show x = ((x.toNat : Nat) : Int) from by omega)) ?_
  refine j_iast F (ws' := moC g ad 0 (nup cC.1 0 ((x.toNat : Nat) : Int), u9, (((rcH hs (H, G, S, M, Nn, c3)).length : Nat) : Int), cC.2.2.2.1, cC.2.2.2.2) cT cL cP) 1 (n := 20) (f := cC.1) rfl 0 (by decide) (by decide) (by decide) rfl dX7_setGreatestTake_44 ?_
  refine j_iload_n F dX7_setGreatestTake_45 rfl 0 rfl ?_
  exact ret _ (nup cC.1 0 ((x.toNat : Nat) : Int), u9) 0 0 _ _ dX7_setGreatestTake_46 (by decide) (by decide) (⟨⟨st_rule hst 0 x.toNat (by decide), h9⟩, rfl⟩)

set_option maxHeartbeats 1000000 in
set_option maxRecDepth 100000 in
theorem c_X7_setGreatestTake_1 {l : Launch} (hfl : l.flags = flags0) (D : va_G) (g : GT) (z : ZT) (ad : Nat → Nat) (th : Int) (cC : CT) (cT : TT) (cL : LT) (cP : PT) (H : List Nat) (G S M Nn : Nat) (c3 : C3) (hs : List GS) (x : Int) (hH : okH H) (hG : 1 ≤ G ∧ G ≤ 5) (hS : S ≤ 1) (hM : M ≤ 1) (hN : Nn ≤ 1) (hst : stM cC.1 H G S M Nn c3) (hok : ∀ x ∈ hs, okG x) (hh6 : hs.length ≤ 6) (hhs : hisM cC.2.1 hs) (hx : rg x) (hn : ¬ (1 ≤ x ∧ x ≤ 5)) : CI l yX7_setGreatestTake wsX7_setGreatestTake 2 44 1 D g z [.ref (ad 0), .int (iI x)] (moC g ad th (cC.1, cC.2.1, ((hs.length : Nat) : Int), cC.2.2.2.1, cC.2.2.2.2) cT cL cP) (fun (r9 : Int32) (u9 : Unit) => True) (fun (u9 : Unit) => moC g ad 1 (cC.1, cC.2.1, ((hs.length : Nat) : Int), cC.2.2.2.1, cC.2.2.2.2) cT cL cP) 0 0 := by
  refine CI_of hfl (own := RX7) ⟨1, 0, 0, 22⟩ 2 44 1 (by decide +kernel) rfl rfl ⟨by decide, by decide, by decide +kernel⟩ ⟨by decide, by decide⟩ (le_ble rfl) (fun _ _ _ => rfl) ?_
  intro p e s m below meth c A Q F ret
  change J p l e _ s m _ below meth c A D _ Q 0 0 (moC g ad th (cC.1, cC.2.1, ((hs.length : Nat) : Int), cC.2.2.2.1, cC.2.2.2.2) cT cL cP) [(0, .ref (ad 0)), (1, .int (iI x))] [] 0
  have hlen := okH_len hH
  refine j_aload_n F dX7_setGreatestTake_0 rfl 0 rfl ?_
  refine j_iload_n F dX7_setGreatestTake_1 rfl 1 rfl ?_
  refine j_iconst F dX7_setGreatestTake_2 ?_
  refine j_iconst F dX7_setGreatestTake_3 ?_
  refine j_callS_I F (As := [.int (iI x), .int (iI 1), .int (iI 5)]) (wr := moC g ad th (cC.1, cC.2.1, ((hs.length : Nat) : Int), cC.2.2.2.1, cC.2.2.2.2) cT cL cP) (st := [.ref (ad 0)]) (c_X7_within hfl D g z x 1 5 hx (by unfold rg; omega) (by unfold rg; omega)) (idx := 119) gX7_setGreatestTake_X7_within rfl [] [0, 1, 2, 3, 4, 5, 6, 7, 8, 9, 10, 11, 12, 13, 14] rfl rfl (by decide) (by decide) (by decide)  (by decide) (by decide) (le_ble rfl) ⟨by decide, by decide⟩ dX7_setGreatestTake_4 ?_
  rintro r7 u7 h7
  subst h7
  refine J.wsEq (ws2 := moC g ad th (cC.1, cC.2.1, ((hs.length : Nat) : Int), cC.2.2.2.1, cC.2.2.2.2) cT cL cP) rfl ?_
  refine j_ifb_eq F (tgt := 14) dX7_setGreatestTake_7 (by decide)  (fun c7 => ?_) (fun h9 => by exfalso; omega)
  refine j_iconst F dX7_setGreatestTake_14 ?_
  refine j_putf F (ref := "CairnGameModel") (C := RX7) (T := TX7) (N := 27) (ci := 7) (index := 60) (ty := .int) (ws' := moC g ad 1 (cC.1, cC.2.1, ((hs.length : Nat) : Int), cC.2.2.2.1, cC.2.2.2.2) cT cL cP) (fun w h => (List.mem_cons_of_mem _ (List.mem_append_right _ h))) tyX7 tyX7_ok nmX7 0 rfl rfl 0 (by decide) (List.mem_cons_of_mem _ (List.mem_append_left _ (List.mem_of_getElem? (i := 0) rfl))) rfl rfl rfl rfl rfl (lt_ble rfl) rfl dX7_setGreatestTake_15 ?_
  refine j_aload_n F dX7_setGreatestTake_18 rfl 0 rfl ?_
  refine j_getf F (ref := "CairnGameModel") (C := RX7) (T := TX7) (N := 27) (ci := 7) (index := 60) (v := .int (iI 1)) (fun w h => (List.mem_cons_of_mem _ (List.mem_append_right _ h))) 0 rfl rfl 0 (by decide) (List.mem_cons_of_mem _ (List.mem_append_left _ (List.mem_of_getElem? (i := 0) rfl))) rfl rfl dX7_setGreatestTake_19 ?_
  refine j_if_le F (tgt := 27) dX7_setGreatestTake_22 (by decide) (by unfold rg; omega) (fun h9 => by exfalso; omega) (fun c22 => ?_)
  refine j_iconst F dX7_setGreatestTake_25 ?_
  exact ret _ () 0 0 _ _ dX7_setGreatestTake_26 (by decide) (by decide) trivial

set_option maxHeartbeats 1000000 in
set_option maxRecDepth 100000 in
theorem c_X7_turns {l : Launch} (hfl : l.flags = flags0) (D : va_G) (g : GT) (z : ZT) (ad : Nat → Nat) (th : Int) (cC : CT) (cT : TT) (cL : LT) (cP : PT) (H : List Nat) (G S M Nn : Nat) (c3 : C3) (hs : List GS) (pl v9 : Nat) (hH : okH H) (hG : 1 ≤ G ∧ G ≤ 5) (hS : S ≤ 1) (hM : M ≤ 1) (hN : Nn ≤ 1) (hst : stM cC.1 H G S M Nn c3) (hok : ∀ x ∈ hs, okG x) (hh6 : hs.length ≤ 6) (hhs : hisM cC.2.1 hs) (hpl : pl < 20) (hv9 : cC.1 pl = (v9 : Int)) (hvb : v9 ≤ 1) : CI l yX7_turns wsX7_turns 2 42 1 D g z [.ref (ad 0), .int (iI (pl : Int))] (moC g ad th (cC.1, cC.2.1, ((hs.length : Nat) : Int), cC.2.2.2.1, cC.2.2.2.2) cT cL cP) (fun (r9 : Int32) (u9 : NF) => hisM u9 (rcH hs (H, G, S, M, Nn, c3)) ∧ r9 = iI ((1 - v9 : Nat) : Int)) (fun (u9 : NF) => moC g ad 0 ((nup cC.1 pl ((1 - v9 : Nat) : Int)), u9, (((rcH hs (H, G, S, M, Nn, c3)).length : Nat) : Int), cC.2.2.2.1, cC.2.2.2.2) cT cL cP) 0 0 := by
  refine CI_of hfl (own := RX7) ⟨1, 0, 0, 21⟩ 2 42 1 (by decide +kernel) rfl rfl ⟨by decide, by decide, by decide +kernel⟩ ⟨by decide, by decide⟩ (le_ble rfl) (fun _ _ h => nar_01 h.2 (by omega)) ?_
  intro p e s m below meth c A Q F ret
  change J p l e _ s m _ below meth c A D _ Q 0 0 (moC g ad th (cC.1, cC.2.1, ((hs.length : Nat) : Int), cC.2.2.2.1, cC.2.2.2.2) cT cL cP) [(0, .ref (ad 0)), (1, .int (iI (pl : Int)))] [] 0
  have hlen := okH_len hH
  refine j_aload_n F dX7_turns_0 rfl 0 rfl ?_
  refine j_iconst F dX7_turns_1 ?_
  refine j_putf F (ref := "CairnGameModel") (C := RX7) (T := TX7) (N := 27) (ci := 7) (index := 60) (ty := .int) (ws' := moC g ad 0 (cC.1, cC.2.1, ((hs.length : Nat) : Int), cC.2.2.2.1, cC.2.2.2.2) cT cL cP) (fun w h => (List.mem_cons_of_mem _ (List.mem_append_right _ h))) tyX7 tyX7_ok nmX7 0 rfl rfl 0 (by decide) (List.mem_cons_of_mem _ (List.mem_append_left _ (List.mem_of_getElem? (i := 0) rfl))) rfl rfl rfl rfl rfl (lt_ble rfl) rfl dX7_turns_2 ?_
  refine j_aload_n F dX7_turns_5 rfl 0 rfl ?_
  refine j_callV_V F (As := []) (wr := []) (st := []) (c_X7_record hfl D g z ad 0 (cC.1, cC.2.1, ((hs.length : Nat) : Int), cC.2.2.2.1, cC.2.2.2.2) cT cL cP hs (H, G, S, M, Nn, c3) hok hh6 hhs hst hlen) (idx := 113) (C := RX7) gX7_turns_X7_record rfl rfl [0, 1, 2, 3, 4, 5, 6, 7, 8, 9, 10, 11, 12, 13, 14] [] rfl rfl (by decide) (by decide) (by decide) (ci := 7) (q0 := 0) rfl rfl (by decide) (by decide) (le_ble rfl) ⟨by decide, by decide⟩ dX7_turns_6 ?_
  rintro u9 h9
  refine J.wsEq (ws2 := moC g ad 0 (cC.1, u9, (((rcH hs (H, G, S, M, Nn, c3)).length : Nat) : Int), cC.2.2.2.1, cC.2.2.2.2) cT cL cP) rfl ?_
  refine j_aload_n F dX7_turns_9 rfl 0 rfl ?_
  refine j_getf F (ref := "CairnGameModel") (C := RX7) (T := TX7) (N := 27) (ci := 7) (index := 7) (v := .ref (ad 1)) (fun w h => (List.mem_cons_of_mem _ (List.mem_append_right _ h))) 0 rfl rfl 1 (by decide) (List.mem_cons_of_mem _ (List.mem_append_left _ (List.mem_of_getElem? (i := 1) rfl))) rfl rfl dX7_turns_10 ?_
  refine j_iload_n F dX7_turns_13 rfl 1 rfl ?_
  refine j_iconst F dX7_turns_14 ?_
  refine j_aload_n F dX7_turns_15 rfl 0 rfl ?_
  refine j_getf F (ref := "CairnGameModel") (C := RX7) (T := TX7) (N := 27) (ci := 7) (index := 7) (v := .ref (ad 1)) (fun w h => (List.mem_cons_of_mem _ (List.mem_append_right _ h))) 0 rfl rfl 1 (by decide) (List.mem_cons_of_mem _ (List.mem_append_left _ (List.mem_of_getElem? (i := 1) rfl))) rfl rfl dX7_turns_16 ?_
  refine j_iload_n F dX7_turns_19 rfl 1 rfl ?_
  refine j_iald F 1 (n := 20) (f := cC.1) rfl pl (rfl) (by omega) (by decide) dX7_turns_20 ?_
  refine J.top (congrArg iI (show cC.1 pl = (v9 : Int) from hv9)) ?_
  refine j_isub F dX7_turns_21 ?_
  refine J.top (congrArg iI (show (1 - (v9 : Int)) = (((1 - v9) : Nat) : Int) from by omega)) ?_
  refine j_iast F (ws' := moC g ad 0 (nup cC.1 pl (((1 - v9) : Nat) : Int), u9, (((rcH hs (H, G, S, M, Nn, c3)).length : Nat) : Int), cC.2.2.2.1, cC.2.2.2.2) cT cL cP) 1 (n := 20) (f := cC.1) rfl pl (rfl) (by omega) (by decide) rfl dX7_turns_22 ?_
  refine j_aload_n F dX7_turns_23 rfl 0 rfl ?_
  refine j_getf F (ref := "CairnGameModel") (C := RX7) (T := TX7) (N := 27) (ci := 7) (index := 7) (v := .ref (ad 1)) (fun w h => (List.mem_cons_of_mem _ (List.mem_append_right _ h))) 0 rfl rfl 1 (by decide) (List.mem_cons_of_mem _ (List.mem_append_left _ (List.mem_of_getElem? (i := 1) rfl))) rfl rfl dX7_turns_24 ?_
  refine j_iload_n F dX7_turns_27 rfl 1 rfl ?_
  refine j_iald F 1 (n := 20) (f := (nup cC.1 pl (((1 - v9) : Nat) : Int))) rfl pl (rfl) (by omega) (by decide) dX7_turns_28 ?_
  refine J.top (congrArg iI (show (nup cC.1 pl (((1 - v9) : Nat) : Int)) pl = (((1 - v9) : Nat) : Int) from nup_s _ _ _)) ?_
  refine j_iconst F dX7_turns_29 ?_
  refine j_icmp_ne F (tgt := 37) dX7_turns_30 (by decide) ⟨(by unfold rg; omega), (by unfold rg; omega)⟩ (fun c30 => ?_) (fun c30 => ?_)
  · refine j_iconst F dX7_turns_37 ?_
    exact ret _ u9 0 0 _ _ dX7_turns_38 (by decide) (by decide) (⟨h9, congrArg iI (by omega)⟩)
  · refine j_iconst F dX7_turns_33 ?_
    refine j_goto F (tgt := 38) dX7_turns_34 (by decide) ?_
    exact ret _ u9 0 0 _ _ dX7_turns_38 (by decide) (by decide) (⟨h9, congrArg iI (by omega)⟩)

set_option maxHeartbeats 1000000 in
set_option maxRecDepth 100000 in
theorem c_X7_turnSplitting {l : Launch} (hfl : l.flags = flags0) (D : va_G) (g : GT) (z : ZT) (ad : Nat → Nat) (th : Int) (cC : CT) (cT : TT) (cL : LT) (cP : PT) (H : List Nat) (G S M Nn : Nat) (c3 : C3) (hs : List GS) (hH : okH H) (hG : 1 ≤ G ∧ G ≤ 5) (hS : S ≤ 1) (hM : M ≤ 1) (hN : Nn ≤ 1) (hst : stM cC.1 H G S M Nn c3) (hok : ∀ x ∈ hs, okG x) (hh6 : hs.length ≤ 6) (hhs : hisM cC.2.1 hs) : CI l yX7_turnSplitting wsX7_turnSplitting 3 62 0 D g z [.ref (ad 0)] (moC g ad th (cC.1, cC.2.1, ((hs.length : Nat) : Int), cC.2.2.2.1, cC.2.2.2.2) cT cL cP) (fun (r9 : Int32) (u9 : NF × NF) => (stM u9.1 H G (1 - S) M Nn c3 ∧ hisM u9.2 (rcH hs (H, G, S, M, Nn, c3))) ∧ r9 = iI ((1 - S : Nat) : Int)) (fun (u9 : NF × NF) => moC g ad 0 (u9.1, u9.2, (((rcH hs (H, G, S, M, Nn, c3)).length : Nat) : Int), cC.2.2.2.1, cC.2.2.2.2) cT cL cP) 0 0 := by
  refine CI_of hfl (own := RX7) ⟨2, 0, 0, 42⟩ 3 62 0 (by decide +kernel) rfl rfl ⟨by decide, by decide, by decide +kernel⟩ ⟨by decide, by decide⟩ (le_ble rfl) (fun _ _ h => nar_01 h.2 (by omega)) ?_
  intro p e s m below meth c A Q F ret
  change J p l e _ s m _ below meth c A D _ Q 0 0 (moC g ad th (cC.1, cC.2.1, ((hs.length : Nat) : Int), cC.2.2.2.1, cC.2.2.2.2) cT cL cP) [(0, .ref (ad 0))] [] 0
  have hlen := okH_len hH
  refine j_aload_n F dX7_turnSplitting_0 rfl 0 rfl ?_
  refine j_iconst F dX7_turnSplitting_1 ?_
  refine j_callV_I F (As := [.int (iI 1)]) (wr := []) (st := []) (c_X7_turns hfl D g z ad th (cC.1, cC.2.1, ((hs.length : Nat) : Int), cC.2.2.2.1, cC.2.2.2.2) cT cL cP H G S M Nn c3 hs 1 S hH hG hS hM hN hst hok hh6 hhs (by decide) hst.2.1 hS) (idx := 123) (C := RX7) gX7_turnSplitting_X7_turns rfl rfl [0, 1, 2, 3, 4, 5, 6, 7, 8, 9, 10, 11, 12, 13, 14] [] rfl rfl (by decide) (by decide) (by decide) (ci := 7) (q0 := 0) rfl rfl (by decide) (by decide) (le_ble rfl) ⟨by decide, by decide⟩ dX7_turnSplitting_2 ?_
  rintro r9 u9 ⟨h9, h8⟩
  subst h8
  refine J.wsEq (ws2 := moC g ad 0 ((nup cC.1 1 ((1 - S : Nat) : Int)), u9, (((rcH hs (H, G, S, M, Nn, c3)).length : Nat) : Int), cC.2.2.2.1, cC.2.2.2.2) cT cL cP) rfl ?_
  exact ret _ (nup cC.1 1 ((1 - S : Nat) : Int), u9) 0 0 _ _ dX7_turnSplitting_5 (by decide) (by decide) (⟨⟨st_rule hst 1 (1 - S) (by decide), h9⟩, rfl⟩)

set_option maxHeartbeats 1000000 in
set_option maxRecDepth 100000 in
theorem c_X7_turnMerging {l : Launch} (hfl : l.flags = flags0) (D : va_G) (g : GT) (z : ZT) (ad : Nat → Nat) (th : Int) (cC : CT) (cT : TT) (cL : LT) (cP : PT) (H : List Nat) (G S M Nn : Nat) (c3 : C3) (hs : List GS) (hH : okH H) (hG : 1 ≤ G ∧ G ≤ 5) (hS : S ≤ 1) (hM : M ≤ 1) (hN : Nn ≤ 1) (hst : stM cC.1 H G S M Nn c3) (hok : ∀ x ∈ hs, okG x) (hh6 : hs.length ≤ 6) (hhs : hisM cC.2.1 hs) : CI l yX7_turnMerging wsX7_turnMerging 3 62 0 D g z [.ref (ad 0)] (moC g ad th (cC.1, cC.2.1, ((hs.length : Nat) : Int), cC.2.2.2.1, cC.2.2.2.2) cT cL cP) (fun (r9 : Int32) (u9 : NF × NF) => (stM u9.1 H G S (1 - M) Nn c3 ∧ hisM u9.2 (rcH hs (H, G, S, M, Nn, c3))) ∧ r9 = iI ((1 - M : Nat) : Int)) (fun (u9 : NF × NF) => moC g ad 0 (u9.1, u9.2, (((rcH hs (H, G, S, M, Nn, c3)).length : Nat) : Int), cC.2.2.2.1, cC.2.2.2.2) cT cL cP) 0 0 := by
  refine CI_of hfl (own := RX7) ⟨2, 0, 0, 42⟩ 3 62 0 (by decide +kernel) rfl rfl ⟨by decide, by decide, by decide +kernel⟩ ⟨by decide, by decide⟩ (le_ble rfl) (fun _ _ h => nar_01 h.2 (by omega)) ?_
  intro p e s m below meth c A Q F ret
  change J p l e _ s m _ below meth c A D _ Q 0 0 (moC g ad th (cC.1, cC.2.1, ((hs.length : Nat) : Int), cC.2.2.2.1, cC.2.2.2.2) cT cL cP) [(0, .ref (ad 0))] [] 0
  have hlen := okH_len hH
  refine j_aload_n F dX7_turnMerging_0 rfl 0 rfl ?_
  refine j_iconst F dX7_turnMerging_1 ?_
  refine j_callV_I F (As := [.int (iI 2)]) (wr := []) (st := []) (c_X7_turns hfl D g z ad th (cC.1, cC.2.1, ((hs.length : Nat) : Int), cC.2.2.2.1, cC.2.2.2.2) cT cL cP H G S M Nn c3 hs 2 M hH hG hS hM hN hst hok hh6 hhs (by decide) hst.2.2.1 hM) (idx := 123) (C := RX7) gX7_turnMerging_X7_turns rfl rfl [0, 1, 2, 3, 4, 5, 6, 7, 8, 9, 10, 11, 12, 13, 14] [] rfl rfl (by decide) (by decide) (by decide) (ci := 7) (q0 := 0) rfl rfl (by decide) (by decide) (le_ble rfl) ⟨by decide, by decide⟩ dX7_turnMerging_2 ?_
  rintro r9 u9 ⟨h9, h8⟩
  subst h8
  refine J.wsEq (ws2 := moC g ad 0 ((nup cC.1 2 ((1 - M : Nat) : Int)), u9, (((rcH hs (H, G, S, M, Nn, c3)).length : Nat) : Int), cC.2.2.2.1, cC.2.2.2.2) cT cL cP) rfl ?_
  exact ret _ (nup cC.1 2 ((1 - M : Nat) : Int), u9) 0 0 _ _ dX7_turnMerging_5 (by decide) (by decide) (⟨⟨st_rule hst 2 (1 - M) (by decide), h9⟩, rfl⟩)

set_option maxHeartbeats 1000000 in
set_option maxRecDepth 100000 in
theorem c_X7_turnEnding {l : Launch} (hfl : l.flags = flags0) (D : va_G) (g : GT) (z : ZT) (ad : Nat → Nat) (th : Int) (cC : CT) (cT : TT) (cL : LT) (cP : PT) (H : List Nat) (G S M Nn : Nat) (c3 : C3) (hs : List GS) (hH : okH H) (hG : 1 ≤ G ∧ G ≤ 5) (hS : S ≤ 1) (hM : M ≤ 1) (hN : Nn ≤ 1) (hst : stM cC.1 H G S M Nn c3) (hok : ∀ x ∈ hs, okG x) (hh6 : hs.length ≤ 6) (hhs : hisM cC.2.1 hs) : CI l yX7_turnEnding wsX7_turnEnding 3 62 0 D g z [.ref (ad 0)] (moC g ad th (cC.1, cC.2.1, ((hs.length : Nat) : Int), cC.2.2.2.1, cC.2.2.2.2) cT cL cP) (fun (r9 : Int32) (u9 : NF × NF) => (stM u9.1 H G S M (1 - Nn) c3 ∧ hisM u9.2 (rcH hs (H, G, S, M, Nn, c3))) ∧ r9 = iI ((1 - Nn : Nat) : Int)) (fun (u9 : NF × NF) => moC g ad 0 (u9.1, u9.2, (((rcH hs (H, G, S, M, Nn, c3)).length : Nat) : Int), cC.2.2.2.1, cC.2.2.2.2) cT cL cP) 0 0 := by
  refine CI_of hfl (own := RX7) ⟨2, 0, 0, 42⟩ 3 62 0 (by decide +kernel) rfl rfl ⟨by decide, by decide, by decide +kernel⟩ ⟨by decide, by decide⟩ (le_ble rfl) (fun _ _ h => nar_01 h.2 (by omega)) ?_
  intro p e s m below meth c A Q F ret
  change J p l e _ s m _ below meth c A D _ Q 0 0 (moC g ad th (cC.1, cC.2.1, ((hs.length : Nat) : Int), cC.2.2.2.1, cC.2.2.2.2) cT cL cP) [(0, .ref (ad 0))] [] 0
  have hlen := okH_len hH
  refine j_aload_n F dX7_turnEnding_0 rfl 0 rfl ?_
  refine j_iconst F dX7_turnEnding_1 ?_
  refine j_callV_I F (As := [.int (iI 3)]) (wr := []) (st := []) (c_X7_turns hfl D g z ad th (cC.1, cC.2.1, ((hs.length : Nat) : Int), cC.2.2.2.1, cC.2.2.2.2) cT cL cP H G S M Nn c3 hs 3 Nn hH hG hS hM hN hst hok hh6 hhs (by decide) hst.2.2.2.1 hN) (idx := 123) (C := RX7) gX7_turnEnding_X7_turns rfl rfl [0, 1, 2, 3, 4, 5, 6, 7, 8, 9, 10, 11, 12, 13, 14] [] rfl rfl (by decide) (by decide) (by decide) (ci := 7) (q0 := 0) rfl rfl (by decide) (by decide) (le_ble rfl) ⟨by decide, by decide⟩ dX7_turnEnding_2 ?_
  rintro r9 u9 ⟨h9, h8⟩
  subst h8
  refine J.wsEq (ws2 := moC g ad 0 ((nup cC.1 3 ((1 - Nn : Nat) : Int)), u9, (((rcH hs (H, G, S, M, Nn, c3)).length : Nat) : Int), cC.2.2.2.1, cC.2.2.2.2) cT cL cP) rfl ?_
  exact ret _ (nup cC.1 3 ((1 - Nn : Nat) : Int), u9) 0 0 _ _ dX7_turnEnding_5 (by decide) (by decide) (⟨⟨st_rule hst 3 (1 - Nn) (by decide), h9⟩, rfl⟩)

end X7E