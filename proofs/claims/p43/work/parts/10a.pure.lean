/-! ===== PURE: heaps as lists, moves, what a position is worth ===== -/
section PURE
def sm : List Nat → Nat
  | [] => 0
  | x :: l => x + sm l
theorem sm_app (a b : List Nat) : sm (a ++ b) = sm a + sm b := by
  induction a with
  | nil => show sm b = 0 + sm b; omega
  | cons x a ih => show x + sm (a ++ b) = x + sm a + sm b; omega
theorem sm_perm {a b : List Nat} (h : a.Perm b) : sm a = sm b := by
  induction h with
  | nil => rfl
  | cons x _ ih => show x + sm _ = x + sm _; omega
  | swap x y l => show y + (x + sm l) = x + (y + sm l); omega
  | trans _ _ h1 h2 => exact h1.trans h2
theorem sm_mem {L : List Nat} {x : Nat} (h : x ∈ L) : x ≤ sm L := by
  induction L with
  | nil => cases h
  | cons y l ih =>
    rcases List.mem_cons.mp h with e | e
    · subst e; show x ≤ x + sm l; omega
    · have := ih e; show x ≤ y + sm l; omega
def okH (L : List Nat) : Prop := (∀ x ∈ L, 1 ≤ x) ∧ sm L ≤ 12
theorem sm_len {L : List Nat} (h : ∀ x ∈ L, 1 ≤ x) : L.length ≤ sm L := by
  induction L with
  | nil => exact Nat.le_refl 0
  | cons x l ih =>
    have h1 := h x List.mem_cons_self
    have h2 := ih (fun y hy => h y (List.mem_cons_of_mem _ hy))
    show l.length + 1 ≤ x + sm l
    omega
theorem okH_len {L : List Nat} (h : okH L) : L.length ≤ 12 := Nat.le_trans (sm_len h.1) h.2
theorem okH_perm {a b : List Nat} (h : a.Perm b) (ha : okH a) : okH b := ⟨fun x hx => ha.1 x (h.mem_iff.mpr hx), by rw [← sm_perm h]; exact ha.2⟩
theorem getD_mem {L : List Nat} {i : Nat} (h : i < L.length) : L.getD i 0 ∈ L := by
  rw [List.getD_eq_getElem?_getD, List.getElem?_eq_getElem h]
  exact List.getElem_mem h
theorem okH_at {L : List Nat} (h : okH L) {i : Nat} (hi : i < L.length) : 1 ≤ L.getD i 0 ∧ L.getD i 0 ≤ 12 := ⟨h.1 _ (getD_mem hi), Nat.le_trans (sm_mem (getD_mem hi)) h.2⟩
theorem ex_perm {L : List Nat} : ∀ {i : Nat}, i < L.length → (L.getD i 0 :: L.eraseIdx i).Perm L := by
  induction L with
  | nil => intro i h; exact absurd h (Nat.not_lt_zero _)
  | cons x l ih =>
    intro i h
    cases i with
    | zero => exact List.Perm.refl _
    | succ i =>
      have h2 : i < l.length := Nat.lt_of_succ_lt_succ h
      show (l.getD i 0 :: x :: l.eraseIdx i).Perm (x :: l)
      exact (List.Perm.swap x (l.getD i 0) (l.eraseIdx i)).trans ((ih h2).cons x)
theorem set_perm {L : List Nat} (y : Nat) : ∀ {i : Nat}, i < L.length → (L.set i y).Perm (y :: L.eraseIdx i) := by
  induction L with
  | nil => intro i h; exact absurd h (Nat.not_lt_zero _)
  | cons x l ih =>
    intro i h
    cases i with
    | zero => exact List.Perm.refl _
    | succ i =>
      have h2 : i < l.length := Nat.lt_of_succ_lt_succ h
      show (x :: l.set i y).Perm (y :: x :: l.eraseIdx i)
      exact ((ih h2).cons x).trans (List.Perm.swap y x (l.eraseIdx i))
/-- a heap split: two in its place -/
def spA : List Nat → Nat → Nat → Nat → List Nat
  | [], _, _, _ => []
  | _ :: l, 0, t, u => t :: u :: l
  | x :: l, h + 1, t, u => x :: spA l h t u
theorem spA_perm {L : List Nat} (t u : Nat) : ∀ {i : Nat}, i < L.length → (spA L i t u).Perm (t :: u :: L.eraseIdx i) := by
  induction L with
  | nil => intro i h; exact absurd h (Nat.not_lt_zero _)
  | cons x l ih =>
    intro i h
    cases i with
    | zero => exact List.Perm.refl _
    | succ i =>
      have h2 : i < l.length := Nat.lt_of_succ_lt_succ h
      show (x :: spA l i t u).Perm (t :: u :: x :: l.eraseIdx i)
      exact ((ih h2).cons x).trans ((List.Perm.swap t x _).trans ((List.Perm.swap u x _).cons t))
theorem spA_len {L : List Nat} (t u : Nat) : ∀ {i : Nat}, i < L.length → (spA L i t u).length = L.length + 1 := fun h => by
  have h1 := (spA_perm (L := L) t u h).length_eq
  have h2 := (ex_perm h).length_eq
  simp only [List.length_cons] at h1 h2
  omega
abbrev Mv : Type := Nat × Nat × Nat
/-- the heaps behind a move: kind, heap, amount -/
def apL (L : List Nat) (k h a : Nat) : List Nat :=
  if k = 0 then (if L.getD h 0 - a = 0 then L.eraseIdx h else L.set h (L.getD h 0 - a))
  else if k = 1 then spA L h a (L.getD h 0 - a)
  else (L.set (min h a) (L.getD h 0 + L.getD a 0 - 1)).eraseIdx (max h a)
def tkR (x : Nat) : Nat → List Mv
  | 0 => []
  | t + 1 => tkR x t ++ [(0, x, t + 1)]
def tkL (g : Nat) (L : List Nat) : Nat → List Mv
  | 0 => []
  | h + 1 => tkL g L h ++ tkR h (min (L.getD h 0) g)
def spR (x : Nat) : Nat → List Mv
  | 0 => []
  | t + 1 => spR x t ++ [(1, x, t + 1)]
def spL (L : List Nat) : Nat → List Mv
  | 0 => []
  | h + 1 => spL L h ++ spR h (L.getD h 0 / 2)
def mgR (x : Nat) : Nat → List Mv
  | 0 => []
  | k + 1 => mgR x k ++ [(2, x, x + 1 + k)]
def mgL (n : Nat) : Nat → List Mv
  | 0 => []
  | h + 1 => mgL n h ++ mgR h (n - 1 - h)
/-- all moves, in their order -/
def mvL (g sp mg : Nat) (L : List Nat) : List Mv := tkL g L L.length ++ ((if sp = 1 then spL L L.length else []) ++ (if mg = 1 then mgL L.length L.length else []))
theorem mem_tkR {x n : Nat} {m : Mv} : m ∈ tkR x n ↔ ∃ t, t < n ∧ m = (0, x, t + 1) := by
  induction n with
  | zero => exact ⟨fun h => absurd h List.not_mem_nil, fun ⟨t, h, _⟩ => absurd h (Nat.not_lt_zero _)⟩
  | succ n ih =>
    rw [tkR, List.mem_append, ih, List.mem_singleton]
    constructor
    · rintro (⟨t, h, e⟩ | e)
      · exact ⟨t, by omega, e⟩
      · exact ⟨n, by omega, e⟩
    · rintro ⟨t, h, e⟩
      by_cases q : t < n
      · exact Or.inl ⟨t, q, e⟩
      · exact Or.inr (by rw [e, show t = n by omega])
theorem mem_spR {x n : Nat} {m : Mv} : m ∈ spR x n ↔ ∃ t, t < n ∧ m = (1, x, t + 1) := by
  induction n with
  | zero => exact ⟨fun h => absurd h List.not_mem_nil, fun ⟨t, h, _⟩ => absurd h (Nat.not_lt_zero _)⟩
  | succ n ih =>
    rw [spR, List.mem_append, ih, List.mem_singleton]
    constructor
    · rintro (⟨t, h, e⟩ | e)
      · exact ⟨t, by omega, e⟩
      · exact ⟨n, by omega, e⟩
    · rintro ⟨t, h, e⟩
      by_cases q : t < n
      · exact Or.inl ⟨t, q, e⟩
      · exact Or.inr (by rw [e, show t = n by omega])
theorem mem_mgR {x n : Nat} {m : Mv} : m ∈ mgR x n ↔ ∃ t, t < n ∧ m = (2, x, x + 1 + t) := by
  induction n with
  | zero => exact ⟨fun h => absurd h List.not_mem_nil, fun ⟨t, h, _⟩ => absurd h (Nat.not_lt_zero _)⟩
  | succ n ih =>
    rw [mgR, List.mem_append, ih, List.mem_singleton]
    constructor
    · rintro (⟨t, h, e⟩ | e)
      · exact ⟨t, by omega, e⟩
      · exact ⟨n, by omega, e⟩
    · rintro ⟨t, h, e⟩
      by_cases q : t < n
      · exact Or.inl ⟨t, q, e⟩
      · exact Or.inr (by rw [e, show t = n by omega])
theorem mem_up {F : Nat → List Mv} {G : Nat → List Mv} (h0 : G 0 = []) (hs : ∀ h, G (h + 1) = G h ++ F h) {n : Nat} {m : Mv} : m ∈ G n ↔ ∃ h, h < n ∧ m ∈ F h := by
  induction n with
  | zero => rw [h0]; exact ⟨fun h => absurd h List.not_mem_nil, fun ⟨t, h, _⟩ => absurd h (Nat.not_lt_zero _)⟩
  | succ n ih =>
    rw [hs, List.mem_append, ih]
    constructor
    · rintro (⟨t, h, e⟩ | e)
      · exact ⟨t, by omega, e⟩
      · exact ⟨n, by omega, e⟩
    · rintro ⟨t, h, e⟩
      by_cases q : t < n
      · exact Or.inl ⟨t, q, e⟩
      · exact Or.inr (by rw [show n = t by omega]; exact e)
/-- a move that is possible -/
def okM (g sp mg : Nat) (L : List Nat) (m : Mv) : Prop := m.2.1 < L.length ∧ ((m.1 = 0 ∧ 1 ≤ m.2.2 ∧ m.2.2 ≤ L.getD m.2.1 0 ∧ m.2.2 ≤ g) ∨ (m.1 = 1 ∧ sp = 1 ∧ 1 ≤ m.2.2 ∧ 2 * m.2.2 ≤ L.getD m.2.1 0) ∨ (m.1 = 2 ∧ mg = 1 ∧ m.2.1 < m.2.2 ∧ m.2.2 < L.length))
theorem mem_mvL {g sp mg : Nat} {L : List Nat} {m : Mv} : m ∈ mvL g sp mg L ↔ okM g sp mg L m := by
  have e1 : m ∈ tkL g L L.length ↔ ∃ h, h < L.length ∧ m ∈ tkR h (min (L.getD h 0) g) := mem_up (G := tkL g L) rfl (fun _ => rfl)
  have e2 : m ∈ spL L L.length ↔ ∃ h, h < L.length ∧ m ∈ spR h (L.getD h 0 / 2) := mem_up (G := spL L) rfl (fun _ => rfl)
  have e3 : m ∈ mgL L.length L.length ↔ ∃ h, h < L.length ∧ m ∈ mgR h (L.length - 1 - h) := mem_up (G := mgL L.length) rfl (fun _ => rfl)
  unfold mvL okM
  rw [List.mem_append, List.mem_append]
  constructor
  · rintro (h | h | h)
    · obtain ⟨x, hx, hm⟩ := e1.mp h
      obtain ⟨t, ht, rfl⟩ := mem_tkR.mp hm
      clear e1 e2 e3 h hm
      exact ⟨hx, Or.inl ⟨rfl, by show 1 ≤ t + 1; omega, by show t + 1 ≤ L.getD x 0; omega, by show t + 1 ≤ g; omega⟩⟩
    · by_cases hs : sp = 1
      · rw [if_pos hs] at h
        obtain ⟨x, hx, hm⟩ := e2.mp h
        obtain ⟨t, ht, rfl⟩ := mem_spR.mp hm
        clear e1 e2 e3 h hm
        exact ⟨hx, Or.inr (Or.inl ⟨rfl, hs, by show 1 ≤ t + 1; omega, by show 2 * (t + 1) ≤ L.getD x 0; omega⟩)⟩
      · rw [if_neg hs] at h; cases h
    · by_cases hs : mg = 1
      · rw [if_pos hs] at h
        obtain ⟨x, hx, hm⟩ := e3.mp h
        obtain ⟨t, ht, rfl⟩ := mem_mgR.mp hm
        clear e1 e2 e3 h hm
        exact ⟨hx, Or.inr (Or.inr ⟨rfl, hs, by show x < x + 1 + t; omega, by show x + 1 + t < L.length; omega⟩)⟩
      · rw [if_neg hs] at h; cases h
  · rintro ⟨hx, ⟨hk, h1, h2, h3⟩ | ⟨hk, hs, h1, h2⟩ | ⟨hk, hs, h1, h2⟩⟩
    · refine Or.inl (e1.mpr ⟨m.2.1, hx, mem_tkR.mpr ⟨m.2.2 - 1, by omega, ?_⟩⟩)
      obtain ⟨k, h, a⟩ := m
      dsimp only at hk h1
      rw [hk, show a - 1 + 1 = a by omega]
    · refine Or.inr (Or.inl ?_)
      rw [if_pos hs]
      refine e2.mpr ⟨m.2.1, hx, mem_spR.mpr ⟨m.2.2 - 1, by omega, ?_⟩⟩
      obtain ⟨k, h, a⟩ := m
      dsimp only at hk h1
      rw [hk, show a - 1 + 1 = a by omega]
    · refine Or.inr (Or.inr ?_)
      rw [if_pos hs]
      refine e3.mpr ⟨m.2.1, hx, mem_mgR.mpr ⟨m.2.2 - 1 - m.2.1, by omega, ?_⟩⟩
      obtain ⟨k, h, a⟩ := m
      dsimp only at hk h1
      rw [hk, show h + 1 + (a - 1 - h) = a by omega]
/-- how many moves there can be -/
def smT (L : List Nat) : Nat → Nat
  | 0 => 0
  | h + 1 => smT L h + L.getD h 0
theorem smT_c (x : Nat) (l : List Nat) (n : Nat) : smT (x :: l) (n + 1) = x + smT l n := by
  induction n with
  | zero => show 0 + x = x + 0; omega
  | succ n ih => show smT (x :: l) (n + 1) + l.getD n 0 = x + (smT l n + l.getD n 0); omega
theorem smT_all (L : List Nat) : smT L L.length = sm L := by
  induction L with
  | nil => rfl
  | cons x l ih => rw [List.length_cons, smT_c, ih]; rfl
theorem tkR_len (x n : Nat) : (tkR x n).length = n := by
  induction n with
  | zero => rfl
  | succ n ih => rw [tkR, List.length_append, ih]; rfl
theorem spR_len (x n : Nat) : (spR x n).length = n := by
  induction n with
  | zero => rfl
  | succ n ih => rw [spR, List.length_append, ih]; rfl
theorem mgR_len (x n : Nat) : (mgR x n).length = n := by
  induction n with
  | zero => rfl
  | succ n ih => rw [mgR, List.length_append, ih]; rfl
theorem tkL_len (g : Nat) (L : List Nat) (n : Nat) : (tkL g L n).length ≤ smT L n := by
  induction n with
  | zero => exact Nat.le_refl 0
  | succ n ih => rw [tkL, List.length_append, tkR_len, smT]; omega
theorem spL_len (L : List Nat) (n : Nat) : 2 * (spL L n).length ≤ smT L n := by
  induction n with
  | zero => exact Nat.le_refl 0
  | succ n ih => rw [spL, List.length_append, spR_len, smT]; omega
theorem mgL_len : ∀ n, n < 13 → (mgL n n).length ≤ 66 := by decide
theorem mvL_len {g sp mg : Nat} {L : List Nat} (h : okH L) : (mvL g sp mg L).length ≤ 84 := by
  have h1 := tkL_len g L L.length
  have h2 := spL_len L L.length
  have h3 := mgL_len L.length (by have := okH_len h; omega)
  rw [smT_all] at h1 h2
  have h4 := h.2
  unfold mvL
  rw [List.length_append, List.length_append]
  have z : ([] : List Mv).length = 0 := rfl
  split <;> split <;> (try rw [z]) <;> omega
end PURE
