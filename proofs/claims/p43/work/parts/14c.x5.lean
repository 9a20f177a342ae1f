/-! ===== Text: contracts ===== -/
section X5B
theorem rdI_ok (T : List Nat) (t : Nat) (hp am : Int) : (rdI T t hp am).1 = (rdI T t 0 0).1 ∧ (rdI T t hp am).2.1 = (rdI T t 0 0).2.1 ∧ (rdI T t hp am).2.2.1 = (rdI T t 0 0).2.2.1 := by
  unfold rdI
  split
  · exact ⟨rfl, rfl, rfl⟩
  · split
    · exact ⟨rfl, rfl, rfl⟩
    · split <;> exact ⟨rfl, rfl, rfl⟩
theorem rdI_v (T : List Nat) (t : Nat) (hp am : Int) (h : (rdI T t hp am).1 = 1) : rdI T t hp am = rdI T t 0 0 := by
  unfold rdI at h ⊢
  split
  · rename_i q
    rw [if_pos q] at h
    exact absurd (show (0 : Int) = 1 from h) (by decide)
  · rename_i q
    rw [if_neg q] at h
    split
    · rename_i q2
      rw [if_pos q2] at h
      exact absurd (show (0 : Int) = 1 from h) (by decide)
    · rename_i q2
      rw [if_neg q2] at h
      split
      · rename_i q3
        rw [if_pos q3] at h
        exact absurd (show (0 : Int) = 1 from h) (by decide)
      · rfl
theorem rdI_01 (T : List Nat) (t : Nat) (hp am : Int) : (rdI T t hp am).1 = 0 ∨ (rdI T t hp am).1 = 1 := by
  unfold rdI
  split
  · exact Or.inl rfl
  · split
    · exact Or.inl rfl
    · split
      · exact Or.inl rfl
      · show (if _ then (0 : Int) else 1) = 0 ∨ (if _ then (0 : Int) else 1) = 1
        split
        · exact Or.inl rfl
        · exact Or.inr rfl
theorem rdI_b (T : List Nat) (t : Nat) (hp am : Int) : t ≤ (rdI T t hp am).2.1 ∧ (rdI T t hp am).2.1 ≤ t + 6 ∧ ((rdI T t hp am).1 = 1 → t + 3 ≤ (rdI T t hp am).2.1) := by
  have h1 := rdH_b T (t + 1)
  have h2 := rdA_b T ((rdH T (t + 1)).2 + 1) (kindT (sgT T t))
  unfold rdI
  split
  · exact ⟨Nat.le_refl t, by show t ≤ t + 6; omega, fun h => absurd (show (0 : Int) = 1 from h) (by decide)⟩
  · split
    · refine ⟨?_, ?_, fun h => absurd (show (0 : Int) = 1 from h) (by decide)⟩
      · show t ≤ (rdH T (t + 1)).2; omega
      · show (rdH T (t + 1)).2 ≤ t + 6; omega
    · rename_i q3
      split
      · refine ⟨?_, ?_, fun h => absurd (show (0 : Int) = 1 from h) (by decide)⟩
        · show t ≤ (rdH T (t + 1)).2; omega
        · show (rdH T (t + 1)).2 ≤ t + 6; omega
      · refine ⟨?_, ?_, fun _ => ?_⟩
        · show t ≤ (rdA T _ _).2; omega
        · show (rdA T _ _).2 ≤ t + 6; omega
        · show t + 3 ≤ (rdA T _ _).2
          have h3 : t + 2 ≤ (rdH T (t + 1)).2 := by
            unfold rdH at q3 ⊢
            split
            · rename_i z
              rw [if_pos z] at q3
              exact absurd rfl q3
            · split
              · split
                · show t + 2 ≤ t + 1 + 2; omega
                · split
                  · show t + 2 ≤ t + 1 + 2; omega
                  · show t + 2 ≤ t + 1 + 1; omega
              · show t + 2 ≤ t + 1 + 1; omega
          omega
/-- what firstError finds; n items may still be read -/
def erF (T : List Nat) : Nat → Nat → Int
  | 0, t => (t : Int)
  | n + 1, t => if (rdI T t 0 0).1 = 0 then (((rdI T t 0 0).2.1 : Nat) : Int) else if T.length ≤ (rdI T t 0 0).2.1 then -1 else if sgT T (rdI T t 0 0).2.1 = 44 then erF T n ((rdI T t 0 0).2.1 + 1) else (((rdI T t 0 0).2.1 : Nat) : Int)
def erT (T : List Nat) : Int := erF T 60 0

set_option maxHeartbeats 4000000 in
set_option maxRecDepth 100000 in
theorem c_X5_init {l : Launch} (hfl : l.flags = flags0) (D : va_G) (g : GT) (z : ZT) (a : Nat) : CV l yX5_init wsX5_init 2 40 0 D g z [.ref a] ([(a, .inr (5, [.null, .int (iI 0), .int (iI 0), .int (iI 0), .int (iI 0), .int (iI 0)]))]) (fun (u9 : Nat) => True) (fun (u9 : Nat) => txC g a u9 0 0 (-1) (-1) (-1) (fun _ => 0)) 1 60 := by
  refine CV_of hfl (own := RX5) ⟨1, 1, 60, 20⟩ 2 40 0 (by decide +kernel) rfl rfl ⟨by decide, by decide, by decide +kernel⟩ ⟨by decide, by decide⟩ (le_ble rfl) ?_
  intro p e s m below meth c A Q F hin ret
  change J p l e _ s m _ below meth c A D _ Q 0 0 ([(a, .inr (5, [.null, .int (iI 0), .int (iI 0), .int (iI 0), .int (iI 0), .int (iI 0)]))]) [(0, .ref a)] [] 0
  refine j_aload_n F dX5_init_0 rfl 0 rfl ?_
  refine j_objInit F (List.mem_cons_of_mem _ (List.mem_append_left _ (List.mem_of_getElem? (i := 0) rfl))) (List.mem_cons_of_mem _ (List.mem_append_left _ (List.mem_of_getElem? (i := 1) rfl))) (List.mem_cons_of_mem _ (List.mem_append_left _ (List.mem_of_getElem? (i := 2) rfl))) (le_ble rfl) (by decide) (by decide) dX5_init_1 ?_
  refine j_aload_n F dX5_init_4 rfl 0 rfl ?_
  refine j_bipush F dX5_init_5 (by decide) ?_
  refine j_newa_c F (ws' := fun q7 => [(a, .inr (5, [.null, .int (iI 0), .int (iI 0), .int (iI 0), .int (iI 0), .int (iI 0)]))] ++ ([(q7, cR g 60 (fun _ => 0))])) 60 rfl (by decide) (List.mem_cons_of_mem _ (List.mem_append_left _ (List.mem_of_getElem? (i := 3) rfl))) (by decide) (by decide) dX5_init_7 (fun _ => rfl) (fun q7 => ?_)
  refine j_putF F hin (ref := "CairnGame$Text") (C := RX5) (T := TX5) (N := 6) (ci := 5) (index := 9) (ty := (.array .char)) (ws' := [(a, .inr (5, [.ref q7, .int (iI 0), .int (iI 0), .int (iI 0), .int (iI 0), .int (iI 0)]))] ++ ([(q7, cR g 60 (fun _ => 0))])) (fun w h => (List.mem_cons_of_mem _ (List.mem_append_right _ h))) tyX5 tyX5_ok nmX5 0 rfl rfl 0 (by decide) (List.mem_cons_of_mem _ (List.mem_append_left _ (List.mem_of_getElem? (i := 4) rfl))) rfl rfl rfl rfl rfl rfl (lt_ble rfl) rfl dX5_init_9 ?_
  refine j_aload_n F dX5_init_12 rfl 0 rfl ?_
  refine j_iconst F dX5_init_13 ?_
  refine j_putf F (ref := "CairnGame$Text") (C := RX5) (T := TX5) (N := 6) (ci := 5) (index := 15) (ty := .int) (ws' := [(a, .inr (5, [.ref q7, .int (iI 0), .int (iI 0), .int (iI 0), .int (iI 0), .int (iI 0)]))] ++ ([(q7, cR g 60 (fun _ => 0))])) (fun w h => (List.mem_cons_of_mem _ (List.mem_append_right _ h))) tyX5 tyX5_ok nmX5 0 rfl rfl 1 (by decide) (List.mem_cons_of_mem _ (List.mem_append_left _ (List.mem_of_getElem? (i := 5) rfl))) rfl rfl rfl rfl rfl (lt_ble rfl) rfl dX5_init_14 ?_
  refine j_aload_n F dX5_init_17 rfl 0 rfl ?_
  refine j_iconst F dX5_init_18 ?_
  refine j_putf F (ref := "CairnGame$Text") (C := RX5) (T := TX5) (N := 6) (ci := 5) (index := 19) (ty := .int) (ws' := [(a, .inr (5, [.ref q7, .int (iI 0), .int (iI 0), .int (iI 0), .int (iI 0), .int (iI 0)]))] ++ ([(q7, cR g 60 (fun _ => 0))])) (fun w h => (List.mem_cons_of_mem _ (List.mem_append_right _ h))) tyX5 tyX5_ok nmX5 0 rfl rfl 2 (by decide) (List.mem_cons_of_mem _ (List.mem_append_left _ (List.mem_of_getElem? (i := 6) rfl))) rfl rfl rfl rfl rfl (lt_ble rfl) rfl dX5_init_19 ?_
  refine j_aload_n F dX5_init_22 rfl 0 rfl ?_
  refine j_iconst F dX5_init_23 ?_
  refine j_putf F (ref := "CairnGame$Text") (C := RX5) (T := TX5) (N := 6) (ci := 5) (index := 22) (ty := .int) (ws' := [(a, .inr (5, [.ref q7, .int (iI 0), .int (iI 0), .int (iI (-1)), .int (iI 0), .int (iI 0)]))] ++ ([(q7, cR g 60 (fun _ => 0))])) (fun w h => (List.mem_cons_of_mem _ (List.mem_append_right _ h))) tyX5 tyX5_ok nmX5 0 rfl rfl 3 (by decide) (List.mem_cons_of_mem _ (List.mem_append_left _ (List.mem_of_getElem? (i := 7) rfl))) rfl rfl rfl rfl rfl (lt_ble rfl) rfl dX5_init_24 ?_
  refine j_aload_n F dX5_init_27 rfl 0 rfl ?_
  refine j_iconst F dX5_init_28 ?_
  refine j_putf F (ref := "CairnGame$Text") (C := RX5) (T := TX5) (N := 6) (ci := 5) (index := 25) (ty := .int) (ws' := [(a, .inr (5, [.ref q7, .int (iI 0), .int (iI 0), .int (iI (-1)), .int (iI (-1)), .int (iI 0)]))] ++ ([(q7, cR g 60 (fun _ => 0))])) (fun w h => (List.mem_cons_of_mem _ (List.mem_append_right _ h))) tyX5 tyX5_ok nmX5 0 rfl rfl 4 (by decide) (List.mem_cons_of_mem _ (List.mem_append_left _ (List.mem_of_getElem? (i := 8) rfl))) rfl rfl rfl rfl rfl (lt_ble rfl) rfl dX5_init_29 ?_
  refine j_aload_n F dX5_init_32 rfl 0 rfl ?_
  refine j_iconst F dX5_init_33 ?_
  refine j_putf F (ref := "CairnGame$Text") (C := RX5) (T := TX5) (N := 6) (ci := 5) (index := 28) (ty := .int) (ws' := [(a, .inr (5, [.ref q7, .int (iI 0), .int (iI 0), .int (iI (-1)), .int (iI (-1)), .int (iI (-1))]))] ++ ([(q7, cR g 60 (fun _ => 0))])) (fun w h => (List.mem_cons_of_mem _ (List.mem_append_right _ h))) tyX5 tyX5_ok nmX5 0 rfl rfl 5 (by decide) (List.mem_cons_of_mem _ (List.mem_append_left _ (List.mem_of_getElem? (i := 9) rfl))) rfl rfl rfl rfl rfl (lt_ble rfl) rfl dX5_init_34 ?_
  exact ret q7 1 60 _ _ dX5_init_37 (by decide) (by decide) trivial

theorem er_go {T : List Nat} {j t : Nat} (h : erF T (60 - j) t = erT T) (hj : j < 60) : erT T = (if (rdI T t 0 0).1 = 0 then (((rdI T t 0 0).2.1 : Nat) : Int) else if T.length ≤ (rdI T t 0 0).2.1 then -1 else if sgT T (rdI T t 0 0).2.1 = 44 then erF T (60 - (j + 1)) ((rdI T t 0 0).2.1 + 1) else (((rdI T t 0 0).2.1 : Nat) : Int)) := by
  obtain ⟨k, e⟩ : ∃ k, 60 - j = k + 1 := ⟨59 - j, by omega⟩
  rw [e] at h
  rw [← h, show 60 - (j + 1) = k by omega]
  rfl
theorem er_end {T : List Nat} {j t : Nat} (h : erF T (60 - j) t = erT T) (hj : 60 ≤ j) : (t : Int) = erT T := by
  rw [← h, show 60 - j = 0 by omega]
  rfl

end X5B
