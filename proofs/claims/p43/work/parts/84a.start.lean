/-! ===== LAW: what the tables give at the start ===== -/
section LAWSTART
variable {s : State} {b : Nat}
theorem arr_p {ty : FieldType} {args : Array Value} (h : (Cond.arrayClass ty).before args s = true) (hn : ∀ C : String, ty ≠ .object C) : ∃ c : ClassId, ArrOfT s c ty ∧ s.vm.findClass ("[" ++ ty.toString) = some c := by
  obtain ⟨c, k, comp, h1, h2, h3⟩ := Cond.arrayClass_spec (args := args) (first := s) (o := none) (s := s) (idx := []) (type := ty) h
  exact ⟨c, fun n z => ⟨fun k h => (by cases h), k, h2, comp, h3⟩, h1⟩
theorem arr_o {C : String} {args : Array Value} (h : (Cond.arrayOver (.object C)).before args s = true) : ∃ c : ClassId, ArrOfT s c (.object C) ∧ va_RA s c (.object C) := by
  obtain ⟨comp, c, k, f1, -, f2, f3, f4⟩ := Cond.arrayOver_spec (args := args) (first := s) (o := none) (s := s) (idx := []) (n := C) h
  exact ⟨c, fun N z => ⟨(fun k h => by cases h), k, f2, comp, f3⟩, k, comp, f2, f3, f1, f4⟩
theorem k_start (hts : ∀ w ∈ lw_tbl, w.before #[Value.ref b] s = true) : ∃ (D : va_G) (g : GT), va_K D vwCl (tysG g) s := by
  have kn : ∀ c : Nat, ∃ q : ClassId × (Nat → Nat), ∀ r : vw_C, vwCl[c]? = some r → u_Kn s r.1 r.2.1 r.2.2 q.1 q.2 := by
    intro c
    match c with
    | 0 => obtain ⟨cC, iS, h⟩ := u_known (ws := lw_tbl) (n := 3) hts inX0 (hts _ (by decide +kernel)); exact ⟨(cC, iS), fun r hr => by cases hr; exact h⟩
    | 1 => obtain ⟨cC, iS, h⟩ := u_known (ws := lw_tbl) (n := 5) hts inX1 (hts _ (by decide +kernel)); exact ⟨(cC, iS), fun r hr => by cases hr; exact h⟩
    | 2 => obtain ⟨cC, iS, h⟩ := u_known (ws := lw_tbl) (n := 5) hts inX2 (hts _ (by decide +kernel)); exact ⟨(cC, iS), fun r hr => by cases hr; exact h⟩
    | 3 => obtain ⟨cC, iS, h⟩ := u_known (ws := lw_tbl) (n := 3) hts inX3 (hts _ (by decide +kernel)); exact ⟨(cC, iS), fun r hr => by cases hr; exact h⟩
    | 4 => obtain ⟨cC, iS, h⟩ := u_known (ws := lw_tbl) (n := 7) hts inX4 (hts _ (by decide +kernel)); exact ⟨(cC, iS), fun r hr => by cases hr; exact h⟩
    | 5 => obtain ⟨cC, iS, h⟩ := u_known (ws := lw_tbl) (n := 6) hts inX5 (hts _ (by decide +kernel)); exact ⟨(cC, iS), fun r hr => by cases hr; exact h⟩
    | 6 => obtain ⟨cC, iS, h⟩ := u_known (ws := lw_tbl) (n := 5) hts inX6 (hts _ (by decide +kernel)); exact ⟨(cC, iS), fun r hr => by cases hr; exact h⟩
    | n + 7 => exact ⟨((0 : Nat), fun _ => 0), fun r hr => by cases hr⟩
  obtain ⟨q, hq⟩ := Classical.axiomOfChoice kn
  obtain ⟨c0, a0, b0⟩ := arr_p (ty := .int) (hts _ (by decide +kernel)) (fun _ h => by cases h)
  obtain ⟨c1, a1, b1⟩ := arr_p (ty := .boolean) (hts _ (by decide +kernel)) (fun _ h => by cases h)
  obtain ⟨c2, a2, b2⟩ := arr_p (ty := .char) (hts _ (by decide +kernel)) (fun _ h => by cases h)
  obtain ⟨c4, a4, b4⟩ := arr_o (C := "CairnGame$Solution") (hts _ (by decide +kernel))
  obtain ⟨c5, a5, b5⟩ := arr_o (C := "CairnGame$State") (hts _ (by decide +kernel))
  refine ⟨(fun c => (q c).1, fun c => (q c).2), fun n => match n with | 0 => c0 | 1 => c1 | 2 => c2 | 3 => c0 | 4 => c4 | _ => c5, fun c r hr => hq c r hr, fun k r hk => ?_⟩
  match k with
  | 0 => cases hk; exact ⟨a0, b0⟩
  | 1 => cases hk; exact ⟨a1, b1⟩
  | 2 => cases hk; exact ⟨a2, b2⟩
  | 3 => cases hk; exact ⟨a0, b0⟩
  | 4 => cases hk; exact ⟨a4, b4⟩
  | 5 => cases hk; exact ⟨a5, b5⟩
  | n + 6 => cases hk
end LAWSTART
