/-! ===== TABLES: all positions, in the order of the class and in that of the model ===== -/
section TAB
def wtN (x : Nat) : Nat := ([0, 1, 13, 68, 182, 288, 435, 100, 244, 145, 35, 24, 38] : List Nat).getD x 0
def slotL : List Nat → Nat
  | [] => 0
  | x :: l => wtN x + slotL l
theorem slotL_perm {a b : List Nat} (h : a.Perm b) : slotL a = slotL b := by
  induction h with
  | nil => rfl
  | cons x _ ih => show wtN x + slotL _ = wtN x + slotL _; omega
  | swap x y l => show wtN y + (wtN x + slotL l) = wtN x + (wtN y + slotL l); omega
  | trans _ _ h1 h2 => exact h1.trans h2
theorem wtN_2 : ∀ x, x < 13 → 2 * wtN x ≤ 145 * x := by decide
theorem slotL_2 {L : List Nat} (h : ∀ x ∈ L, x < 13) : 2 * slotL L ≤ 145 * sm L := by
  induction L with
  | nil => exact Nat.le_refl _
  | cons x l ih =>
    have h1 := wtN_2 x (h x List.mem_cons_self)
    have h2 := ih (fun y hy => h y (List.mem_cons_of_mem _ hy))
    show 2 * (wtN x + slotL l) ≤ 145 * (x + sm l)
    omega
theorem slotL_lt {L : List Nat} (h : okH L) : slotL L ≤ 870 := by
  have h1 := slotL_2 (L := L) (fun x hx => by have := sm_mem hx; have := h.2; omega)
  have h2 := h.2
  omega
/-- falling order -/
def desc : List Nat → Prop
  | [] => True
  | x :: l => (∀ y ∈ l, y ≤ x) ∧ desc l
def insD (x : Nat) : List Nat → List Nat
  | [] => [x]
  | y :: l => if y < x then x :: y :: l else y :: insD x l
def sortL : List Nat → List Nat
  | [] => []
  | x :: l => insD x (sortL l)
theorem insD_perm (x : Nat) (l : List Nat) : (insD x l).Perm (x :: l) := by
  induction l with
  | nil => exact List.Perm.refl _
  | cons y l ih =>
    rw [insD]
    split
    · exact List.Perm.refl _
    · exact (ih.cons y).trans (List.Perm.swap x y l)
theorem insD_desc {x : Nat} {l : List Nat} (h : desc l) : desc (insD x l) := by
  induction l with
  | nil => exact ⟨fun y hy => absurd hy List.not_mem_nil, trivial⟩
  | cons y l ih =>
    rw [insD]
    split
    · rename_i q
      refine ⟨fun w hw => ?_, h⟩
      rcases List.mem_cons.mp hw with e | e
      · omega
      · have := h.1 w e; omega
    · rename_i q
      refine ⟨fun w hw => ?_, ih h.2⟩
      rcases List.mem_cons.mp ((insD_perm x l).mem_iff.mp hw) with e | e
      · omega
      · exact h.1 w e
theorem sortL_perm (l : List Nat) : (sortL l).Perm l := by
  induction l with
  | nil => exact List.Perm.refl _
  | cons x l ih => exact (insD_perm x (sortL l)).trans (ih.cons x)
theorem sortL_desc (l : List Nat) : desc (sortL l) := by
  induction l with
  | nil => trivial
  | cons x l ih => exact insD_desc ih
theorem desc_one {a : List Nat} : ∀ {b : List Nat}, desc a → desc b → a.Perm b → a = b := by
  induction a with
  | nil => intro b _ _ h; exact (List.Perm.nil_eq h)
  | cons x a ih =>
    intro b ha hb h
    cases b with
    | nil => exact absurd h.length_eq (by simp)
    | cons y b =>
      have h1 : x ≤ y := by
        rcases List.mem_cons.mp (h.mem_iff.mp List.mem_cons_self) with e | e
        · omega
        · exact hb.1 x e
      have h2 : y ≤ x := by
        rcases List.mem_cons.mp (h.mem_iff.mpr List.mem_cons_self) with e | e
        · omega
        · exact ha.1 y e
      have e : x = y := by omega
      subst e
      rw [ih ha.2 hb.2 ((List.perm_cons x).mp h)]
/-- all falling rows of n stones, no heap greater than m -/
def parts : Nat → Nat → Nat → List (List Nat)
  | 0, n, _ => if n = 0 then [[]] else []
  | f + 1, n, m => if n = 0 then [[]] else (List.range (min m n)).flatMap fun i => (parts f (n - (i + 1)) (i + 1)).map fun l => (i + 1) :: l
theorem parts_all : ∀ (f : Nat) (L : List Nat) (m : Nat), desc L → (∀ x ∈ L, 1 ≤ x ∧ x ≤ m) → sm L ≤ f → L ∈ parts f (sm L) m
  | 0, L, m, hd, h1, h2 => by
    cases L with
    | nil => exact List.mem_cons_self
    | cons x l =>
      have := (h1 x List.mem_cons_self).1
      have e : sm (x :: l) = x + sm l := rfl
      omega
  | f + 1, L, m, hd, h1, h2 => by
    cases L with
    | nil => exact List.mem_cons_self
    | cons x l =>
      have hx := h1 x List.mem_cons_self
      have e : sm (x :: l) = x + sm l := rfl
      rw [parts, if_neg (by omega), List.mem_flatMap]
      refine ⟨x - 1, List.mem_range.mpr (by omega), List.mem_map.mpr ⟨l, ?_, by rw [show x - 1 + 1 = x by omega]⟩⟩
      rw [e, show x - 1 + 1 = x by omega, show x + sm l - x = sm l by omega]
      exact parts_all f l x hd.2 (fun y hy => ⟨(h1 y (List.mem_cons_of_mem _ hy)).1, hd.1 y hy⟩) (by omega)
theorem parts_ok {L : List Nat} (h : okH L) : sortL L ∈ parts 12 (sm L) 12 := by
  have p := sortL_perm L
  have e := sm_perm p
  rw [← e]
  have h2 := h.2
  refine parts_all 12 (sortL L) 12 (sortL_desc L) (fun x hx => ?_) (by omega)
  have hx2 := p.mem_iff.mp hx
  have := sm_mem hx2
  exact ⟨h.1 x hx2, by omega⟩
/-- the class's order -/
def gL (L : List Nat) : Nat → Nat
  | 0 => 0
  | k + 1 => if L.getD k 0 = L.getD (k + 1) 0 then gL L k else k + 1
def stepL (L : List Nat) : Option (List Nat) :=
  if L.length < 2 then none
  else some (L.take (gL L (L.length - 2)) ++ (L.getD (gL L (L.length - 2)) 0 + 1) :: List.replicate (sm (L.drop (gL L (L.length - 2) + 1)) - 1) 1)
def enumC : Nat → List Nat → List (List Nat)
  | 0, _ => []
  | f + 1, L => L :: (match stepL L with
    | none => []
    | some l => enumC f l)
def rowC (n : Nat) : List (List Nat) := enumC 100 (List.replicate n 1)
def okB (n : Nat) (p : List Nat) : Bool := decide (sm p = n) && p.all (fun x => decide (1 ≤ x))
def splB (seen : List (List Nat)) (p : List Nat) : Bool := (spL p p.length).all fun m => seen.contains (sortL (apL p m.1 m.2.1 m.2.2))
def chkO : List (List Nat) → List (List Nat) → Bool
  | _, [] => true
  | seen, p :: l => splB seen p && chkO (p :: seen) l
theorem rowC_all : ∀ n, n < 13 → (parts 12 n 12).all (fun p => (rowC n).contains p) = true := by decide +kernel
theorem rowC_ok : ∀ n, n < 13 → (rowC n).all (okB n) = true := by decide +kernel
theorem rowC_ord : ∀ n, n < 13 → chkO [] (rowC n) = true := by decide +kernel
def allC : List (List Nat) := (List.range 13).flatMap rowC
def ndB : List Nat → Bool
  | [] => true
  | x :: l => !(l.contains x) && ndB l
theorem allC_nd : ndB (allC.map slotL) = true := by decide +kernel
/-- the model's order -/
def fillM : Nat → Nat → Nat → List Nat
  | 0, _, _ => []
  | f + 1, r, m => if r = 0 then [] else min r m :: fillM f (r - min r m) m
def nextM : List Nat → Option (List Nat)
  | [] => none
  | x :: l => match nextM l with
    | some l' => some (x :: l')
    | none => if x ≤ 1 then none else some ((x - 1) :: fillM (l.length + 1) (l.length + 1) (x - 1))
def enumM : Nat → List Nat → List (List Nat)
  | 0, _ => []
  | f + 1, L => L :: (match nextM L with
    | none => []
    | some l => enumM f l)
def rowM (n : Nat) : List (List Nat) := enumM 100 (if n = 0 then [] else [n])
def segM (n : Nat) : Nat → List (List Nat)
  | 0 => []
  | s + 1 => segM n s ++ (rowM n).filter (fun p => p.length == n - s)
/-- the positions of fewer than n stones -/
def posN : Nat → List (List Nat)
  | 0 => []
  | n + 1 => posN n ++ segM n (n + 1)
def posT : List (List Nat) := posN 13
def bgT (n : Nat) : Nat := (posN n).length
def keyN (p : List Nat) : Nat := 13 * sm p - p.length
def mono : List (List Nat) → Bool
  | [] => true
  | [_] => true
  | p :: q :: l => decide (keyN p ≤ keyN q) && mono (q :: l)
theorem posT_len : posT.length = 272 := by decide +kernel
theorem posT_all : ∀ n, n < 13 → (parts 12 n 12).all (fun p => (posT.drop (bgT n)).contains p) = true := by decide +kernel
theorem posT_ok : posT.all (fun p => okB (sm p) p && decide (sm p ≤ 12)) = true := by decide +kernel
theorem posT_mono : mono posT = true := by decide +kernel
theorem rowM_len : ∀ n, n < 13 → (rowM n).length < 100 := by decide +kernel
end TAB
