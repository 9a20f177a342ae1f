/-! ===== the two String constants' methods; Text: contracts ===== -/
section X5
def sgT (T : List Nat) (t : Nat) : Nat := if t < T.length then T.getD t 0 else 0
def txOK (T : List Nat) : Prop := T.length ≤ 60 ∧ ∀ x ∈ T, 33 ≤ x ∧ x ≤ 126
theorem sgT_lt {T : List Nat} (h : txOK T) (t : Nat) : sgT T t < 127 := by
  unfold sgT
  split
  · rename_i q
    have := h.2 _ (getD_mem q)
    omega
  · omega
theorem sgT_out {T : List Nat} {t : Nat} (h : T.length ≤ t) : sgT T t = 0 := by
  unfold sgT
  rw [if_neg (by omega)]
theorem sgT_in {T : List Nat} {t : Nat} (h : t < T.length) : sgT T t = T.getD t 0 := by
  unfold sgT
  rw [if_pos h]
def kindT (w : Int) : Int := if w = 116 then 0 else if w = 115 then 1 else if w = 109 then 2 else -1
theorem kindT_r (w : Int) : kindT w = -1 ∨ (0 ≤ kindT w ∧ kindT w ≤ 2) := by
  unfold kindT
  split
  · exact Or.inr ⟨by omega, by omega⟩
  · split
    · exact Or.inr ⟨by omega, by omega⟩
    · split
      · exact Or.inr ⟨by omega, by omega⟩
      · exact Or.inl rfl
def lnkT (k : Int) : Nat := if k = 0 then 45 else if k = 1 then 47 else 43
def rdS (T : List Nat) (t w : Nat) : Nat := if sgT T t = w then t + 1 else t
def rdH (T : List Nat) (t : Nat) : Int × Nat :=
  if sgT T t < 48 ∨ 57 < sgT T t then (-1, t)
  else if sgT T t = 49 then (if sgT T (t + 1) = 48 then (10, t + 2) else if sgT T (t + 1) = 49 then (11, t + 2) else (1, t + 1))
  else ((sgT T t : Int) - 48, t + 1)
def amL (k : Int) : Nat := if k = 0 then 53 else 54
theorem amL_b (k : Int) : 53 ≤ amL k ∧ amL k ≤ 54 := by unfold amL; split <;> omega
def rdA (T : List Nat) (t : Nat) (k : Int) : Int × Nat :=
  if k = 2 then rdH T t
  else if sgT T t < 49 ∨ amL k < sgT T t then (-1, t)
  else ((sgT T t : Int) - 48, t + 1)
theorem rdH_b (T : List Nat) (t : Nat) : -1 ≤ (rdH T t).1 ∧ (rdH T t).1 ≤ 11 ∧ t ≤ (rdH T t).2 ∧ (rdH T t).2 ≤ t + 2 := by
  unfold rdH
  split
  · exact ⟨by show (-1 : Int) ≤ -1; omega, by show (-1 : Int) ≤ 11; omega, by show t ≤ t; omega, by show t ≤ t + 2; omega⟩
  · rename_i q
    split
    · split
      · exact ⟨by show (-1 : Int) ≤ 10; omega, by show (10 : Int) ≤ 11; omega, by show t ≤ t + 2; omega, by show t + 2 ≤ t + 2; omega⟩
      · split
        · exact ⟨by show (-1 : Int) ≤ 11; omega, by show (11 : Int) ≤ 11; omega, by show t ≤ t + 2; omega, by show t + 2 ≤ t + 2; omega⟩
        · exact ⟨by show (-1 : Int) ≤ 1; omega, by show (1 : Int) ≤ 11; omega, by show t ≤ t + 1; omega, by show t + 1 ≤ t + 2; omega⟩
    · exact ⟨by show (-1 : Int) ≤ (sgT T t : Int) - 48; omega, by show (sgT T t : Int) - 48 ≤ 11; omega, by show t ≤ t + 1; omega, by show t + 1 ≤ t + 2; omega⟩
theorem rdA_b (T : List Nat) (t : Nat) (k : Int) : -1 ≤ (rdA T t k).1 ∧ (rdA T t k).1 ≤ 11 ∧ t ≤ (rdA T t k).2 ∧ (rdA T t k).2 ≤ t + 2 := by
  unfold rdA
  split
  · exact rdH_b T t
  · split
    · exact ⟨by show (-1 : Int) ≤ -1; omega, by show (-1 : Int) ≤ 11; omega, by show t ≤ t; omega, by show t ≤ t + 2; omega⟩
    · rename_i q
      have q2 := amL_b k
      exact ⟨by show (-1 : Int) ≤ (sgT T t : Int) - 48; omega, by show (sgT T t : Int) - 48 ≤ 11; omega, by show t ≤ t + 1; omega, by show t + 1 ≤ t + 2; omega⟩
/-- an item read: 1 or 0, where the reader stands, kind, heap, amount -/
def rdI (T : List Nat) (t : Nat) (hp am : Int) : Int × Nat × Int × Int × Int :=
  if kindT (sgT T t) = -1 then (0, t, -1, hp, am)
  else if (rdH T (t + 1)).1 = -1 then (0, (rdH T (t + 1)).2, kindT (sgT T t), -1, am)
  else if ¬ sgT T (rdH T (t + 1)).2 = lnkT (kindT (sgT T t)) then (0, (rdH T (t + 1)).2, kindT (sgT T t), (rdH T (t + 1)).1, am)
  else ((if (rdA T ((rdH T (t + 1)).2 + 1) (kindT (sgT T t))).1 = -1 then 0 else 1), (rdA T ((rdH T (t + 1)).2 + 1) (kindT (sgT T t))).2, kindT (sgT T t), (rdH T (t + 1)).1, (rdA T ((rdH T (t + 1)).2 + 1) (kindT (sgT T t))).1)

end X5
