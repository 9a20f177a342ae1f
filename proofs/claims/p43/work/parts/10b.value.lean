/-! ===== VALUE: what a position is worth, by its moves; the order of its heaps doesn't matter ===== -/
section VALUE
/-- the number, whether it is won with the ending turned round (1 or 0), the longest and the shortest game -/
abbrev VT : Type := Nat × Nat × Nat × Nat
def mexF (l : List Nat) : Nat → Nat → Nat
  | 0, k => k
  | n + 1, k => if k ∈ l then mexF l n (k + 1) else k
theorem mexF_set {l l' : List Nat} (h : ∀ x, x ∈ l ↔ x ∈ l') : ∀ n k, mexF l n k = mexF l' n k
  | 0, _ => rfl
  | n + 1, k => by
    rw [mexF, mexF, mexF_set h n (k + 1)]
    by_cases q : k ∈ l
    · rw [if_pos q, if_pos ((h k).mp q)]
    · rw [if_neg q, if_neg (fun w => q ((h k).mpr w))]
theorem mexF_le {l : List Nat} {j : Nat} (h : ¬ j ∈ l) : ∀ n k, k ≤ j → mexF l n k ≤ j
  | 0, _, hk => hk
  | n + 1, k, hk => by
    rw [mexF]
    by_cases q : k ∈ l
    · rw [if_pos q]
      have : k ≠ j := fun e => h (e ▸ q)
      exact mexF_le h n (k + 1) (by omega)
    · rw [if_neg q]
      exact hk
def mxL : List VT → Nat
  | [] => 0
  | v :: l => max (v.2.2.1 + 1) (mxL l)
def mnL : List VT → Nat
  | [] => 1000
  | v :: l => min (v.2.2.2 + 1) (mnL l)
def wnL : List VT → Nat
  | [] => 0
  | v :: l => if v.2.1 = 0 then 1 else wnL l
theorem le_mxL {vs : List VT} {v : VT} (h : v ∈ vs) : v.2.2.1 + 1 ≤ mxL vs := by
  induction vs with
  | nil => cases h
  | cons w l ih =>
    rw [mxL]
    rcases List.mem_cons.mp h with e | e
    · subst e; omega
    · have := ih e; omega
theorem mxL_le {vs : List VT} {M : Nat} (h : ∀ v ∈ vs, v.2.2.1 + 1 ≤ M) : mxL vs ≤ M := by
  induction vs with
  | nil => exact Nat.zero_le _
  | cons w l ih =>
    rw [mxL]
    have h1 := h w List.mem_cons_self
    have h2 := ih (fun v hv => h v (List.mem_cons_of_mem _ hv))
    omega
theorem mnL_le {vs : List VT} {v : VT} (h : v ∈ vs) : mnL vs ≤ v.2.2.2 + 1 := by
  induction vs with
  | nil => cases h
  | cons w l ih =>
    rw [mnL]
    rcases List.mem_cons.mp h with e | e
    · subst e; omega
    · have := ih e; omega
theorem mnL_k (vs : List VT) : mnL vs ≤ 1000 := by
  induction vs with
  | nil => exact Nat.le_refl _
  | cons w l ih => rw [mnL]; omega
theorem le_mnL {vs : List VT} {M : Nat} (hM : M ≤ 1000) (h : ∀ v ∈ vs, M ≤ v.2.2.2 + 1) : M ≤ mnL vs := by
  induction vs with
  | nil => exact hM
  | cons w l ih =>
    rw [mnL]
    have h1 := h w List.mem_cons_self
    have h2 := ih (fun v hv => h v (List.mem_cons_of_mem _ hv))
    omega
theorem wnL_01 (vs : List VT) : wnL vs ≤ 1 := by
  induction vs with
  | nil => exact Nat.zero_le _
  | cons w l ih =>
    rw [wnL]
    split
    · exact Nat.le_refl _
    · exact ih
theorem wnL_1 {vs : List VT} : wnL vs = 1 ↔ ∃ v, v ∈ vs ∧ v.2.1 = 0 := by
  induction vs with
  | nil => exact ⟨fun h => absurd h (by decide), fun ⟨v, h, _⟩ => nomatch h⟩
  | cons w l ih =>
    rw [wnL]
    by_cases q : w.2.1 = 0
    · rw [if_pos q]
      exact ⟨fun _ => ⟨w, List.mem_cons_self, q⟩, fun _ => rfl⟩
    · rw [if_neg q, ih]
      constructor
      · rintro ⟨v, h, e⟩
        exact ⟨v, List.mem_cons_of_mem _ h, e⟩
      · rintro ⟨v, h, e⟩
        rcases List.mem_cons.mp h with z | z
        · subst z; exact absurd e q
        · exact ⟨v, z, e⟩
def combV : List VT → VT
  | [] => (0, 1, 0, 0)
  | v :: l => (mexF ((v :: l).map (fun w => w.1)) 63 0, wnL (v :: l), mxL (v :: l), mnL (v :: l))
theorem combV_c {vs : List VT} (h : vs ≠ []) : combV vs = (mexF (vs.map (fun w => w.1)) 63 0, wnL vs, mxL vs, mnL vs) := by
  cases vs with
  | nil => exact absurd rfl h
  | cons v l => rfl
theorem combV_set {vs ws : List VT} (h : ∀ v, v ∈ vs ↔ v ∈ ws) : combV vs = combV ws := by
  by_cases e : vs = []
  · subst e
    have : ws = [] := by
      cases ws with
      | nil => rfl
      | cons w l => exact absurd ((h w).mpr List.mem_cons_self) (by simp)
    rw [this]
  · have e2 : ws ≠ [] := by
      intro q
      subst q
      cases vs with
      | nil => exact e rfl
      | cons w l => exact absurd ((h w).mp List.mem_cons_self) (by simp)
    rw [combV_c e, combV_c e2]
    have h1 : mexF (vs.map (fun w => w.1)) 63 0 = mexF (ws.map (fun w => w.1)) 63 0 := by
      apply mexF_set
      intro x
      rw [List.mem_map, List.mem_map]
      exact ⟨fun ⟨v, hv, e⟩ => ⟨v, (h v).mp hv, e⟩, fun ⟨v, hv, e⟩ => ⟨v, (h v).mpr hv, e⟩⟩
    have h2 : wnL vs = wnL ws := by
      have a := wnL_01 vs
      have b := wnL_01 ws
      have c : wnL vs = 1 ↔ wnL ws = 1 := by
        rw [wnL_1, wnL_1]
        exact ⟨fun ⟨v, hv, e⟩ => ⟨v, (h v).mp hv, e⟩, fun ⟨v, hv, e⟩ => ⟨v, (h v).mpr hv, e⟩⟩
      omega
    have h3 : mxL vs = mxL ws := Nat.le_antisymm (mxL_le fun v hv => le_mxL ((h v).mp hv)) (mxL_le fun v hv => le_mxL ((h v).mpr hv))
    have h4 : mnL vs = mnL ws := Nat.le_antisymm (le_mnL (mnL_k vs) fun v hv => mnL_le ((h v).mpr hv)) (le_mnL (mnL_k ws) fun v hv => mnL_le ((h v).mp hv))
    rw [h1, h2, h3, h4]
/-- what a position is worth, with so much fuel -/
def Vf (g sp mg : Nat) : Nat → List Nat → VT
  | 0, _ => (0, 0, 0, 0)
  | n + 1, L => combV ((mvL g sp mg L).map fun m => Vf g sp mg n (apL L m.1 m.2.1 m.2.2))
theorem apL_0 (L : List Nat) (h a : Nat) : apL L 0 h a = if L.getD h 0 - a = 0 then L.eraseIdx h else L.set h (L.getD h 0 - a) := rfl
theorem apL_1 (L : List Nat) (h a : Nat) : apL L 1 h a = spA L h a (L.getD h 0 - a) := rfl
theorem apL_2 (L : List Nat) (h a : Nat) : apL L 2 h a = (L.set (min h a) (L.getD h 0 + L.getD a 0 - 1)).eraseIdx (max h a) := rfl
theorem mem_at {L : List Nat} {x : Nat} (h : x ∈ L) : ∃ i, i < L.length ∧ L.getD i 0 = x := by
  induction L with
  | nil => cases h
  | cons y l ih =>
    rcases List.mem_cons.mp h with e | e
    · exact ⟨0, Nat.zero_lt_succ _, e.symm⟩
    · obtain ⟨i, h1, h2⟩ := ih e
      exact ⟨i + 1, Nat.succ_lt_succ h1, h2⟩
theorem at_perm {L L' : List Nat} (h : L.Perm L') {i : Nat} (hi : i < L.length) : ∃ j, j < L'.length ∧ L'.getD j 0 = L.getD i 0 ∧ (L.eraseIdx i).Perm (L'.eraseIdx j) := by
  obtain ⟨j, h1, h2⟩ := mem_at (h.mem_iff.mp (getD_mem hi))
  refine ⟨j, h1, h2, (List.perm_cons (L.getD i 0)).mp ?_⟩
  refine (ex_perm hi).trans (h.trans ?_)
  have h3 := (ex_perm h1).symm
  rw [h2] at h3
  exact h3
theorem er_len {L : List Nat} {i : Nat} (h : i < L.length) : (L.eraseIdx i).length + 1 = L.length := by
  have := (ex_perm h).length_eq
  simpa using this
theorem er_at : ∀ (L : List Nat) (i j : Nat), (L.eraseIdx i).getD j 0 = if j < i then L.getD j 0 else L.getD (j + 1) 0
  | [], i, j => by
    show ([] : List Nat).getD j 0 = _
    split <;> rfl
  | x :: l, 0, j => by
    rw [if_neg (Nat.not_lt_zero _)]
    rfl
  | x :: l, i + 1, 0 => by
    rw [if_pos (Nat.zero_lt_succ _)]
    rfl
  | x :: l, i + 1, j + 1 => by
    show (l.eraseIdx i).getD j 0 = _
    rw [er_at l i j]
    by_cases q : j < i
    · rw [if_pos q, if_pos (by omega)]; rfl
    · rw [if_neg q, if_neg (by omega)]; rfl
theorem er_comm : ∀ (L : List Nat) (i j : Nat), i ≤ j → (L.eraseIdx (j + 1)).eraseIdx i = (L.eraseIdx i).eraseIdx j
  | [], _, _, _ => rfl
  | x :: l, 0, j, _ => rfl
  | x :: l, i + 1, j, h => by
    cases j with
    | zero => omega
    | succ j =>
      show x :: (l.eraseIdx (j + 1)).eraseIdx i = x :: (l.eraseIdx i).eraseIdx j
      rw [er_comm l i j (by omega)]
theorem mg_perm (v : Nat) : ∀ (L : List Nat) (h k : Nat), h < k → k < L.length → ((L.set h v).eraseIdx k).Perm (v :: (L.eraseIdx k).eraseIdx h)
  | [], _, _, _, hk => absurd hk (Nat.not_lt_zero _)
  | x :: l, 0, k + 1, _, _ => List.Perm.refl _
  | x :: l, h + 1, k + 1, hh, hk => by
    show (x :: (l.set h v).eraseIdx k).Perm (v :: x :: (l.eraseIdx k).eraseIdx h)
    exact ((mg_perm v l h k (by omega) (Nat.lt_of_succ_lt_succ hk)).cons x).trans (List.Perm.swap v x _)
/-- a move of the same heaps in another order leads to the same heaps in another order -/
theorem ap_perm {g sp mg : Nat} {L L' : List Nat} (h : L.Perm L') {m : Mv} (hm : okM g sp mg L m) : ∃ m', okM g sp mg L' m' ∧ (apL L m.1 m.2.1 m.2.2).Perm (apL L' m'.1 m'.2.1 m'.2.2) := by
  obtain ⟨k, x, a⟩ := m
  obtain ⟨hx, ⟨hk, h1, h2, h3⟩ | ⟨hk, hs, h1, h2⟩ | ⟨hk, hs, h1, h2⟩⟩ := hm
  · dsimp only at hk hx h1 h2 h3
    subst hk
    obtain ⟨j, j1, j2, j3⟩ := at_perm h hx
    refine ⟨(0, j, a), ⟨j1, Or.inl ⟨rfl, h1, by rw [j2]; exact h2, h3⟩⟩, ?_⟩
    show (apL L 0 x a).Perm (apL L' 0 j a)
    rw [apL_0, apL_0, j2]
    split
    · exact j3
    · exact (set_perm _ hx).trans ((j3.cons _).trans (set_perm _ j1).symm)
  · dsimp only at hk hx h1 h2
    subst hk
    obtain ⟨j, j1, j2, j3⟩ := at_perm h hx
    refine ⟨(1, j, a), ⟨j1, Or.inr (Or.inl ⟨rfl, hs, h1, by rw [j2]; exact h2⟩)⟩, ?_⟩
    show (apL L 1 x a).Perm (apL L' 1 j a)
    rw [apL_1, apL_1, j2]
    exact (spA_perm _ _ hx).trans (((j3.cons _).cons _).trans (spA_perm _ _ j1).symm)
  · dsimp only at hk hx h1 h2
    subst hk
    obtain ⟨j, j1, j2, j3⟩ := at_perm h h2
    have hx2 : x < (L.eraseIdx a).length := by have := er_len h2; omega
    obtain ⟨i, i1, i2, i3⟩ := at_perm j3 hx2
    rw [er_at, er_at, if_pos h1] at i2
    have hj := er_len j1
    by_cases q : i < j
    · rw [if_pos q] at i2
      refine ⟨(2, i, j), ⟨by show i < L'.length; omega, Or.inr (Or.inr ⟨rfl, hs, q, j1⟩)⟩, ?_⟩
      show (apL L 2 x a).Perm (apL L' 2 i j)
      rw [apL_2, apL_2, i2, j2, Nat.min_eq_left (by omega), Nat.max_eq_right (by omega), Nat.min_eq_left (by omega), Nat.max_eq_right (by omega)]
      exact (mg_perm _ L x a h1 h2).trans ((i3.cons _).trans (mg_perm _ L' i j q j1).symm)
    · rw [if_neg q] at i2
      refine ⟨(2, j, i + 1), ⟨j1, Or.inr (Or.inr ⟨rfl, hs, by show j < i + 1; omega, by show i + 1 < L'.length; omega⟩)⟩, ?_⟩
      show (apL L 2 x a).Perm (apL L' 2 j (i + 1))
      rw [apL_2, apL_2, i2, j2, Nat.min_eq_left (by omega), Nat.max_eq_right (by omega), Nat.min_eq_left (by omega), Nat.max_eq_right (by omega), Nat.add_comm (L.getD a 0)]
      refine (mg_perm _ L x a h1 h2).trans ((i3.cons _).trans ?_)
      have e := mg_perm (L.getD x 0 + L.getD a 0 - 1) L' j (i + 1) (by omega) (by omega)
      rw [er_comm L' j i (by omega)] at e
      exact e.symm
theorem Vf_perm {g sp mg : Nat} : ∀ (n : Nat) {L L' : List Nat}, L.Perm L' → Vf g sp mg n L = Vf g sp mg n L'
  | 0, _, _, _ => rfl
  | n + 1, L, L', h => by
    rw [Vf, Vf]
    apply combV_set
    intro v
    rw [List.mem_map, List.mem_map]
    constructor
    · rintro ⟨m, hm, rfl⟩
      obtain ⟨m', h1, h2⟩ := ap_perm h (mem_mvL.mp hm)
      exact ⟨m', mem_mvL.mpr h1, (Vf_perm n h2).symm⟩
    · rintro ⟨m, hm, rfl⟩
      obtain ⟨m', h1, h2⟩ := ap_perm h.symm (mem_mvL.mp hm)
      exact ⟨m', mem_mvL.mpr h1, (Vf_perm n h2).symm⟩
def mu (L : List Nat) : Nat := 2 * sm L - L.length
/-- behind a move: fewer stones, or as many in more heaps -/
theorem ap_ok {g sp mg : Nat} {L : List Nat} {m : Mv} (h : okH L) (hm : okM g sp mg L m) : okH (apL L m.1 m.2.1 m.2.2) ∧ mu (apL L m.1 m.2.1 m.2.2) < mu L ∧ (sm (apL L m.1 m.2.1 m.2.2) < sm L ∨ (m.1 = 1 ∧ sm (apL L m.1 m.2.1 m.2.2) = sm L ∧ (apL L m.1 m.2.1 m.2.2).length = L.length + 1)) := by
  obtain ⟨k, x, a⟩ := m
  have hL := sm_len h.1
  have h12 := h.2
  obtain ⟨hx, hm⟩ := hm
  dsimp only at hx
  have e0 := sm_perm (ex_perm hx)
  rw [sm] at e0
  have e1 := er_len hx
  have e2 := okH_at h hx
  have hE : ∀ y ∈ L.eraseIdx x, 1 ≤ y := fun y hy => h.1 y ((ex_perm hx).mem_iff.mp (List.mem_cons_of_mem _ hy))
  have e3 := sm_len hE
  rcases hm with ⟨hk, h1, h2, h3⟩ | ⟨hk, hs, h1, h2⟩ | ⟨hk, hs, h1, h2⟩
  · dsimp only at hk h1 h2 h3 ⊢
    subst hk
    rw [apL_0]
    by_cases q : L.getD x 0 - a = 0
    · rw [if_pos q]
      unfold mu
      exact ⟨⟨hE, by omega⟩, by omega, Or.inl (by omega)⟩
    · rw [if_neg q]
      have p := set_perm (L.getD x 0 - a) hx
      have p1 := sm_perm p
      have p2 := p.length_eq
      rw [sm] at p1
      simp only [List.length_cons] at p2
      unfold mu
      refine ⟨⟨fun y hy => ?_, by omega⟩, by omega, Or.inl (by omega)⟩
      rcases List.mem_cons.mp (p.mem_iff.mp hy) with e | e
      · omega
      · exact hE y e
  · dsimp only at hk h1 h2 ⊢
    subst hk
    rw [apL_1]
    have p := spA_perm a (L.getD x 0 - a) hx
    have p1 := sm_perm p
    have p2 := p.length_eq
    rw [sm, sm] at p1
    simp only [List.length_cons] at p2
    unfold mu
    refine ⟨⟨fun y hy => ?_, by omega⟩, by omega, Or.inr ⟨rfl, by omega, by omega⟩⟩
    rcases List.mem_cons.mp (p.mem_iff.mp hy) with e | e
    · omega
    · rcases List.mem_cons.mp e with e | e
      · omega
      · exact hE y e
  · dsimp only at hk h1 h2 ⊢
    subst hk
    rw [apL_2, Nat.min_eq_left (by omega), Nat.max_eq_right (by omega)]
    have p := mg_perm (L.getD x 0 + L.getD a 0 - 1) L x a h1 h2
    have p1 := sm_perm p
    have p2 := p.length_eq
    rw [sm] at p1
    simp only [List.length_cons] at p2
    have f0 := sm_perm (ex_perm h2)
    rw [sm] at f0
    have f1 := er_len h2
    have f2 := okH_at h h2
    have hx2 : x < (L.eraseIdx a).length := by omega
    have f3 := sm_perm (ex_perm hx2)
    rw [sm, er_at, if_pos h1] at f3
    have f4 := er_len hx2
    have hE2 : ∀ y ∈ (L.eraseIdx a).eraseIdx x, 1 ≤ y := fun y hy => h.1 y ((ex_perm h2).mem_iff.mp (List.mem_cons_of_mem _ ((ex_perm hx2).mem_iff.mp (List.mem_cons_of_mem _ hy))))
    have f5 := sm_len hE2
    unfold mu
    refine ⟨⟨fun y hy => ?_, by omega⟩, by omega, Or.inl (by omega)⟩
    rcases List.mem_cons.mp (p.mem_iff.mp hy) with e | e
    · omega
    · exact hE2 y e
theorem Vf_fuel {g sp mg : Nat} : ∀ (n n' : Nat) (L : List Nat), okH L → mu L < n → mu L < n' → Vf g sp mg n L = Vf g sp mg n' L
  | 0, _, _, _, h, _ => absurd h (Nat.not_lt_zero _)
  | _ + 1, 0, _, _, _, h => absurd h (Nat.not_lt_zero _)
  | n + 1, n' + 1, L, hL, h, h' => by
    rw [Vf, Vf]
    congr 1
    apply List.map_congr_left
    intro m hm
    obtain ⟨h1, h2, -⟩ := ap_ok hL (mem_mvL.mp hm)
    exact Vf_fuel n n' _ h1 (by omega) (by omega)
/-- what a position is worth -/
def val (g sp mg : Nat) (L : List Nat) : VT := Vf g sp mg 24 L
theorem mu_le {L : List Nat} (h : okH L) : mu L ≤ 23 := by
  have h1 := h.2
  unfold mu
  cases L with
  | nil => exact Nat.zero_le _
  | cons x l =>
    rw [List.length_cons]
    omega
theorem val_eq {g sp mg : Nat} {L : List Nat} (h : okH L) : val g sp mg L = combV ((mvL g sp mg L).map fun m => val g sp mg (apL L m.1 m.2.1 m.2.2)) := by
  have e : (mvL g sp mg L).map (fun m => Vf g sp mg 23 (apL L m.1 m.2.1 m.2.2)) = (mvL g sp mg L).map (fun m => val g sp mg (apL L m.1 m.2.1 m.2.2)) := by
    apply List.map_congr_left
    intro m hm
    obtain ⟨h1, h2, -⟩ := ap_ok h (mem_mvL.mp hm)
    have := mu_le h
    exact Vf_fuel 23 24 _ h1 (by omega) (by omega)
  exact congrArg combV e
theorem val_perm {g sp mg : Nat} {L L' : List Nat} (h : L.Perm L') : val g sp mg L = val g sp mg L' := Vf_perm 24 h
theorem val_bd {g sp mg : Nat} : ∀ (n : Nat) (L : List Nat), okH L → mu L < n → (val g sp mg L).1 ≤ mu L ∧ (val g sp mg L).2.1 ≤ 1 ∧ (val g sp mg L).2.2.1 ≤ mu L ∧ (val g sp mg L).2.2.2 ≤ mu L
  | 0, _, _, h => absurd h (Nat.not_lt_zero _)
  | n + 1, L, hL, h => by
    rw [val_eq hL]
    have hv : ∀ v ∈ (mvL g sp mg L).map (fun m => val g sp mg (apL L m.1 m.2.1 m.2.2)), v.1 + 1 ≤ mu L ∧ v.2.2.1 + 1 ≤ mu L ∧ v.2.2.2 + 1 ≤ mu L := by
      intro v hv
      obtain ⟨m, hm, rfl⟩ := List.mem_map.mp hv
      obtain ⟨h1, h2, -⟩ := ap_ok hL (mem_mvL.mp hm)
      obtain ⟨b1, -, b2, b3⟩ := val_bd (g := g) (sp := sp) (mg := mg) n _ h1 (by omega)
      exact ⟨by omega, by omega, by omega⟩
    by_cases e : (mvL g sp mg L).map (fun m => val g sp mg (apL L m.1 m.2.1 m.2.2)) = []
    · rw [e]
      exact ⟨Nat.zero_le _, Nat.le_refl _, Nat.zero_le _, Nat.zero_le _⟩
    · rw [combV_c e]
      refine ⟨mexF_le ?_ 63 0 (Nat.zero_le _), wnL_01 _, mxL_le fun v h => (hv v h).2.1, ?_⟩
      · intro hc
        obtain ⟨v, hv1, hv2⟩ := List.mem_map.mp hc
        have := (hv v hv1).1
        omega
      · obtain ⟨v, l, e2⟩ := List.exists_cons_of_ne_nil e
        have hm : v ∈ (mvL g sp mg L).map (fun m => val g sp mg (apL L m.1 m.2.1 m.2.2)) := by rw [e2]; exact List.mem_cons_self
        exact Nat.le_trans (mnL_le hm) (hv v hm).2.2
theorem val_b {g sp mg : Nat} {L : List Nat} (h : okH L) : (val g sp mg L).1 ≤ 23 ∧ (val g sp mg L).2.1 ≤ 1 ∧ (val g sp mg L).2.2.1 ≤ 23 ∧ (val g sp mg L).2.2.2 ≤ 23 := by
  obtain ⟨h1, h2, h3, h4⟩ := val_bd (g := g) (sp := sp) (mg := mg) 24 L h (by have := mu_le h; omega)
  have := mu_le h
  exact ⟨by omega, h2, by omega, by omega⟩
/-- a position with heaps has a move, if a stone may be taken -/
theorem mvL_ne {g sp mg : Nat} {L : List Nat} (hg : 1 ≤ g) (h : okH L) (hL : L ≠ []) : mvL g sp mg L ≠ [] := by
  intro e
  have h0 : 0 < L.length := by
    cases L with
    | nil => exact absurd rfl hL
    | cons x l => exact Nat.zero_lt_succ _
  have hm : ((0, 0, 1) : Mv) ∈ mvL g sp mg L := mem_mvL.mpr ⟨h0, Or.inl ⟨rfl, Nat.le_refl _, (okH_at h h0).1, hg⟩⟩
  rw [e] at hm
  cases hm
end VALUE
