/-! ===== Solver: all positions are entered in the class's order ===== -/
section X3
def lowC (n : Nat) : List (List Nat) := (List.range n).flatMap rowC
theorem lowC_s (n : Nat) : lowC (n + 1) = lowC n ++ rowC n := by
  unfold lowC
  rw [List.range_succ, List.flatMap_append]
  simp
theorem lowC_pre : ∀ (k n : Nat), ∃ Z, lowC (n + k) = lowC n ++ Z
  | 0, n => ⟨[], by rw [List.append_nil]; rfl⟩
  | k + 1, n => by
    obtain ⟨Z, e⟩ := lowC_pre k n
    exact ⟨Z ++ rowC (n + k), by rw [← Nat.add_assoc, lowC_s, e, List.append_assoc]⟩
theorem mem_lowC {n : Nat} {p : List Nat} : p ∈ lowC n ↔ ∃ k, k < n ∧ p ∈ rowC k := by
  unfold lowC
  rw [List.mem_flatMap]
  constructor
  · rintro ⟨k, h, h2⟩; exact ⟨k, List.mem_range.mp h, h2⟩
  · rintro ⟨k, h, h2⟩; exact ⟨k, List.mem_range.mpr h, h2⟩
theorem nd_ne {x : Nat} {B : List Nat} : ∀ {A : List Nat}, ndB (A ++ x :: B) = true → ∀ y ∈ A, y ≠ x
  | [], _, y, h => absurd h List.not_mem_nil
  | a :: A, h, y, hy => by
    rw [List.cons_append, ndB, Bool.and_eq_true] at h
    rcases List.mem_cons.mp hy with e | e
    · subst e
      intro q
      have h1 := h.1
      rw [q] at h1
      simp at h1
    · exact nd_ne h.2 y e
theorem slot_apart {n : Nat} (hn : n < 13) {dn Z : List (List Nat)} {p : List Nat} (h : rowC n = dn ++ p :: Z) : ∀ q ∈ lowC n ++ dn, slotL q ≠ slotL p := by
  obtain ⟨W, e⟩ := lowC_pre (12 - n) (n + 1)
  have e0 : n + 1 + (12 - n) = 13 := by omega
  rw [e0] at e
  have e2 : allC = (lowC n ++ dn) ++ p :: (Z ++ W) := by
    show lowC 13 = _
    rw [e, lowC_s, h]
    simp only [List.append_assoc, List.cons_append]
  have h1 := allC_nd
  rw [e2, List.map_append, List.map_cons] at h1
  intro q hq
  exact nd_ne h1 _ (List.mem_map.mpr ⟨q, hq, rfl⟩)
theorem rowC_okH {n : Nat} (hn : n < 13) {p : List Nat} (h : p ∈ rowC n) : okH p ∧ sm p = n := by
  have h1 := List.all_eq_true.mp (rowC_ok n hn) p h
  unfold okB at h1
  rw [Bool.and_eq_true, decide_eq_true_eq, List.all_eq_true] at h1
  exact ⟨⟨fun x hx => of_decide_eq_true (h1.2 x hx), by omega⟩, h1.1⟩
theorem rowC_mem {q : List Nat} (h : okH q) : sortL q ∈ rowC (sm q) := by
  have h2 := h.2
  have h1 := List.all_eq_true.mp (rowC_all (sm q) (by omega)) _ (parts_ok h)
  simpa using h1
theorem chk_at {p : List Nat} {Z : List (List Nat)} : ∀ {dn seen : List (List Nat)}, chkO seen (dn ++ p :: Z) = true → splB (dn.reverse ++ seen) p = true
  | [], seen, h => by
    rw [List.nil_append, chkO, Bool.and_eq_true] at h
    exact h.1
  | d :: dn, seen, h => by
    rw [List.cons_append, chkO, Bool.and_eq_true] at h
    rw [List.reverse_cons, List.append_assoc]
    exact chk_at h.2
theorem mem_spL2 {L : List Nat} {h t : Nat} (hh : h < L.length) (ht : t < L.getD h 0 / 2) : ((1, h, t + 1) : Mv) ∈ spL L L.length :=
  (mem_up (F := fun h => spR h (L.getD h 0 / 2)) (G := spL L) rfl (fun _ => rfl)).mpr ⟨h, hh, mem_spR.mpr ⟨t, ht, rfl⟩⟩
def tabOK (G S M : Nat) (Nu Lo Sh Wo : NF) (Ps : List (List Nat)) : Prop := ∀ p ∈ Ps, tabAt Nu Lo Sh Wo (slotL p) (val G S M p)
section TB
variable {G S M n : Nat} {Nu Lo Sh Wo : NF}
theorem tab_sort {Ps : List (List Nat)} (H : tabOK G S M Nu Lo Sh Wo Ps) {q : List Nat} (h : sortL q ∈ Ps) : tabAt Nu Lo Sh Wo (slotL q) (val G S M q) := by
  have := H _ h
  rw [slotL_perm (sortL_perm q), val_perm (sortL_perm q)] at this
  exact this
theorem tab_at (H : tabOK G S M Nu Lo Sh Wo (lowC (n + 1))) {q : List Nat} (hq : okH q) (hs : sm q ≤ n) : tabAt Nu Lo Sh Wo (slotL q) (val G S M q) := tab_sort H (mem_lowC.mpr ⟨_, by omega, rowC_mem hq⟩)
theorem behind_tab (hn : n < 13) {dn Z : List (List Nat)} {p : List Nat} (hrow : rowC n = dn ++ p :: Z) (H : tabOK G S M Nu Lo Sh Wo (lowC n ++ dn)) {m : Mv} (hm : okM G S M p m) : tabAt Nu Lo Sh Wo (slotL (apL p m.1 m.2.1 m.2.2)) (val G S M (apL p m.1 m.2.1 m.2.2)) := by
  obtain ⟨hp, hsp⟩ := rowC_okH hn (p := p) (by rw [hrow]; simp)
  obtain ⟨h1, -, h3⟩ := ap_ok hp hm
  apply tab_sort H
  rw [List.mem_append]
  rcases h3 with h3 | ⟨hk, h3, -⟩
  · exact Or.inl (mem_lowC.mpr ⟨_, by omega, rowC_mem h1⟩)
  · right
    have c := chk_at (dn := dn) (seen := []) (p := p) (Z := Z) (by have := rowC_ord n hn; rw [hrow] at this; exact this)
    rw [List.append_nil] at c
    obtain ⟨k, h, a⟩ := m
    obtain ⟨hh, hm⟩ := hm
    dsimp only at hk hh hm h3 ⊢
    subst hk
    rcases hm with ⟨q, -⟩ | ⟨-, hs, h5, h6⟩ | ⟨q, -⟩
    · omega
    · have hmem : ((1, h, a) : Mv) ∈ spL p p.length := by
        have := mem_spL2 (L := p) (h := h) (t := a - 1) hh (by omega)
        rw [show a - 1 + 1 = a by omega] at this
        exact this
      have := List.all_eq_true.mp c _ hmem
      simpa using this
    · omega
theorem tab_enter (hn : n < 13) {dn Z : List (List Nat)} {p : List Nat} (hrow : rowC n = dn ++ p :: Z) (H : tabOK G S M Nu Lo Sh Wo (lowC n ++ dn)) {v : VT} (hv : v = val G S M p) : tabOK G S M (nup Nu (slotL p) ((v.1 : Nat) : Int)) (nup Lo (slotL p) ((v.2.2.1 : Nat) : Int)) (nup Sh (slotL p) ((v.2.2.2 : Nat) : Int)) (nup Wo (slotL p) ((v.2.1 : Nat) : Int)) (lowC n ++ (dn ++ [p])) := by
  intro q hq
  subst hv
  rw [← List.append_assoc, List.mem_append, List.mem_singleton] at hq
  rcases hq with hq | rfl
  · have hne := slot_apart hn hrow q hq
    obtain ⟨a, b, c, d⟩ := H q hq
    exact ⟨by rw [nup_n _ _ hne]; exact a, by rw [nup_n _ _ hne]; exact b, by rw [nup_n _ _ hne]; exact c, by rw [nup_n _ _ hne]; exact d⟩
  · exact ⟨nup_s _ _ _, nup_s _ _ _, nup_s _ _ _, nup_s _ _ _⟩
theorem val_nil (G S M : Nat) : val G S M [] = (0, 1, 0, 0) := by
  rw [val_eq ⟨fun x h => absurd h List.not_mem_nil, Nat.zero_le _⟩]
  have : mvL G S M [] = [] := by unfold mvL; split <;> split <;> rfl
  rw [this]; rfl
theorem tab_0 (G S M : Nat) : tabOK G S M (fun _ => 0) (fun _ => 0) (fun _ => 0) (nup (fun _ => 0) 0 1) (lowC 1) := by
  intro p hp
  have e : p = [] := by
    obtain ⟨k, hk, h⟩ := mem_lowC.mp hp
    have hk0 : k = 0 := by omega
    subst hk0
    obtain ⟨h1, h2⟩ := rowC_okH (by omega) h
    cases p with
    | nil => rfl
    | cons x l =>
      have := h1.1 x List.mem_cons_self
      have e : sm (x :: l) = x + sm l := rfl
      omega
  subst e
  rw [val_nil]
  exact ⟨rfl, rfl, rfl, rfl⟩
end TB
def on1 (w : Nat) : List Nat := List.replicate w 1
def ap1 (L : List Nat) (w : Nat) : List Nat := L ++ on1 w
def solI (G S M n j : Nat) (mo : Int) (L : List Nat) (fF Nu Lo Sh Wo : NF) (dn : List (List Nat)) : Prop := j ≤ 100 ∧ tabOK G S M Nu Lo Sh Wo (lowC n ++ dn) ∧ ((mo = 1 ∧ rep fF L ∧ rowC n = dn ++ enumC (100 - j) L) ∨ (mo = 0 ∧ rowC n = dn))
def moI (o : Option (List Nat)) : Int := match o with
  | none => 0
  | some _ => 1
section SI
variable {G S M n j : Nat} {mo : Int} {L : List Nat} {fF Nu Lo Sh Wo : NF} {dn : List (List Nat)}
theorem solI_0 (H : tabOK G S M Nu Lo Sh Wo (lowC n)) (hr : rep fF (on1 n)) : solI G S M n 0 1 (on1 n) fF Nu Lo Sh Wo [] := ⟨Nat.zero_le _, by rw [List.append_nil]; exact H, Or.inl ⟨rfl, hr, rfl⟩⟩
theorem solI_01 (h : solI G S M n j mo L fF Nu Lo Sh Wo dn) : (mo = 0 ∨ mo = 1) ∧ j ≤ 100 := by
  rcases h.2.2 with h2 | h2
  · exact ⟨Or.inr h2.1, h.1⟩
  · exact ⟨Or.inl h2.1, h.1⟩
theorem solI_e (h : solI G S M n j mo L fF Nu Lo Sh Wo dn) (hx : mo = 0 ∨ 100 ≤ j) : tabOK G S M Nu Lo Sh Wo (lowC (n + 1)) := by
  obtain ⟨h1, h2, h3⟩ := h
  have e : rowC n = dn := by
    rcases h3 with ⟨q, -, h3⟩ | ⟨-, h3⟩
    · have : j = 100 := by omega
      subst this
      rw [h3]
      exact List.append_nil dn
    · exact h3
  rw [lowC_s, e]
  exact h2
theorem enumC_s (hj : j < 100) (L : List Nat) : enumC (100 - j) L = L :: (match stepL L with
    | none => []
    | some l => enumC (100 - (j + 1)) l) := by
  obtain ⟨k, e⟩ : ∃ k, 100 - j = k + 1 := ⟨99 - j, by omega⟩
  rw [e, show 100 - (j + 1) = k by omega]
  rfl
theorem solI_r (h : solI G S M n j mo L fF Nu Lo Sh Wo dn) (hm : ¬ mo = 0) : rep fF L ∧ rowC n = dn ++ enumC (100 - j) L := by
  rcases h.2.2 with h2 | h2
  · exact h2.2
  · exact absurd h2.1 hm
theorem solI_row (h : solI G S M n j mo L fF Nu Lo Sh Wo dn) (hm : ¬ mo = 0) (hj : j < 100) : ∃ Z, rowC n = dn ++ L :: Z := by
  have := (solI_r h hm).2
  rw [enumC_s hj] at this
  exact ⟨_, this⟩
theorem solI_s (hn : n < 13) (h : solI G S M n j mo L fF Nu Lo Sh Wo dn) (hm : ¬ mo = 0) (hj : j < 100) {v : VT} (hv : v = val G S M L) {f2 : NF} {L2 : List Nat} (hs : (stepL L = none ∧ L2 = L) ∨ (stepL L = some L2 ∧ rep f2 L2)) : solI G S M n (j + 1) (moI (stepL L)) L2 f2 (nup Nu (slotL L) ((v.1 : Nat) : Int)) (nup Lo (slotL L) ((v.2.2.1 : Nat) : Int)) (nup Sh (slotL L) ((v.2.2.2 : Nat) : Int)) (nup Wo (slotL L) ((v.2.1 : Nat) : Int)) (dn ++ [L]) := by
  obtain ⟨Z, hrow⟩ := solI_row h hm hj
  have hr := (solI_r h hm).2
  rw [enumC_s hj] at hr
  refine ⟨by omega, tab_enter hn hrow h.2.1 hv, ?_⟩
  rcases hs with ⟨e, -⟩ | ⟨e, h2⟩
  · rw [e] at hr ⊢
    exact Or.inr ⟨rfl, by rw [hr]⟩
  · rw [e] at hr ⊢
    exact Or.inl ⟨rfl, h2, by rw [hr]; simp⟩
end SI
theorem ap1_0 (L : List Nat) : ap1 L 0 = L := List.append_nil L
theorem ap1_s (L : List Nat) (j : Nat) : ap1 L (j + 1) = ap1 L j ++ [1] := by
  unfold ap1 on1
  rw [List.replicate_succ', ← List.append_assoc]
theorem ap1_len (L : List Nat) (j : Nat) : (ap1 L j).length = L.length + j := by
  unfold ap1 on1
  rw [List.length_append, List.length_replicate]
def bhV (G S M : Nat) (L : List Nat) : List VT := (mvL G S M L).map fun m => val G S M (apL L m.1 m.2.1 m.2.2)
def bhS (G S M : Nat) (L : List Nat) (i : Nat) : Nat := slotL (apL L ((mvL G S M L).getD i m0).1 ((mvL G S M L).getD i m0).2.1 ((mvL G S M L).getD i m0).2.2)
theorem getD_memM {ms : List Mv} {j : Nat} (hj : j < ms.length) : ms.getD j m0 ∈ ms := by
  rw [List.getD_eq_getElem?_getD, List.getElem?_eq_getElem hj]
  exact List.getElem_mem hj
theorem getD_map {α β : Type} (f : α → β) {l : List α} {j : Nat} (d : β) (e : α) (hj : j < l.length) : (l.map f).getD j d = f (l.getD j e) := by
  rw [List.getD_eq_getElem?_getD, List.getD_eq_getElem?_getD, List.getElem?_map, List.getElem?_eq_getElem hj]
  rfl
theorem bhV_len (G S M : Nat) (L : List Nat) : (mvL G S M L).length = (bhV G S M L).length := by unfold bhV; rw [List.length_map]
theorem bhV_b {G S M : Nat} {L : List Nat} (h : okH L) : ∀ v ∈ bhV G S M L, v.1 ≤ 23 ∧ v.2.1 ≤ 1 ∧ v.2.2.1 ≤ 23 ∧ v.2.2.2 ≤ 23 := by
  intro v hv
  obtain ⟨m, hm, rfl⟩ := List.mem_map.mp hv
  exact val_b (ap_ok h (mem_mvL.mp hm)).1
theorem bhV_ne {G S M : Nat} {L : List Nat} (hG : 1 ≤ G) (h : okH L) (hn : 1 ≤ sm L) : bhV G S M L ≠ [] := by
  intro e
  have hL : L ≠ [] := by
    rintro rfl
    exact absurd hn (by decide)
  have h2 := mvL_ne (sp := S) (mg := M) hG h hL
  exact h2 (List.map_eq_nil_iff.mp e)
theorem bhS_lt {G S M : Nat} {L : List Nat} (h : okH L) : ∀ i, i < (mvL G S M L).length → bhS G S M L i < 1024 := fun i hi => ap_slot_lt h (mem_mvL.mp (getD_memM hi))
theorem bhV_tab {G S M n : Nat} {Nu Lo Sh Wo : NF} (hn : n < 13) {dn Z : List (List Nat)} {p : List Nat} (hrow : rowC n = dn ++ p :: Z) (H : tabOK G S M Nu Lo Sh Wo (lowC n ++ dn)) : ∀ i, i < (mvL G S M p).length → tabAt Nu Lo Sh Wo (bhS G S M p i) ((bhV G S M p).getD i v0) := by
  intro i hi
  unfold bhV
  rw [getD_map _ v0 m0 hi]
  exact behind_tab hn hrow H (mem_mvL.mp (getD_memM hi))
theorem bhV_val {G S M : Nat} {L : List Nat} (h : okH L) : combV (bhV G S M L) = val G S M L := (val_eq h).symm
theorem rep_push {f : NF} {L : List Nat} (hr : rep f L) (v : Nat) : rep (insF f L.length L.length (v : Int)) (L ++ [v]) := by
  intro i hi
  rw [List.length_append] at hi
  simp only [List.length_cons, List.length_nil] at hi
  unfold insF
  by_cases q : i = L.length
  · rw [if_pos q, q, getD_app_r]
  · rw [if_neg q, if_neg (by omega), getD_app_l (by omega)]
    exact hr i (by omega)
theorem drop_s {L : List Nat} {x : Nat} (h : x < L.length) : sm (L.drop x) = L.getD x 0 + sm (L.drop (x + 1)) := by
  rw [List.getD_eq_getElem?_getD, List.getElem?_eq_getElem h, List.drop_eq_getElem_cons h]
  rfl
theorem gL_s {L : List Nat} {v : Int} (h : 0 < v) (he : L.getD (v - 1).toNat 0 = L.getD v.toNat 0) : gL L (v + (-1)).toNat = gL L v.toNat := by
  obtain ⟨k, rfl⟩ : ∃ k : Nat, v = (k : Int) + 1 := ⟨(v - 1).toNat, by omega⟩
  have e1 : ((k : Int) + 1 - 1).toNat = k := by omega
  have e2 : ((k : Int) + 1).toNat = k + 1 := by omega
  have e3 : ((k : Int) + 1 + (-1)).toNat = k := by omega
  rw [e1, e2] at he
  rw [e2, e3, gL, if_pos he]
theorem gL_n {L : List Nat} {v : Int} (h : 0 < v) (he : ¬ L.getD (v - 1).toNat 0 = L.getD v.toNat 0) : gL L v.toNat = v.toNat := by
  obtain ⟨k, rfl⟩ : ∃ k : Nat, v = (k : Int) + 1 := ⟨(v - 1).toNat, by omega⟩
  have e1 : ((k : Int) + 1 - 1).toNat = k := by omega
  have e2 : ((k : Int) + 1).toNat = k + 1 := by omega
  rw [e1, e2] at he
  rw [e2, gL, if_neg he]
theorem sm_take_drop (L : List Nat) (k : Nat) : sm (L.take k) + sm (L.drop k) = sm L := by
  rw [← sm_app, List.take_append_drop]
theorem rep_take {f : NF} {L : List Nat} (hr : rep f L) {k : Nat} (hk : k < L.length) (v : Nat) : rep (nup f k (v : Int)) (L.take k ++ [v]) := by
  intro i hi
  rw [List.length_append, List.length_take] at hi
  simp only [List.length_cons, List.length_nil] at hi
  by_cases q : i = k
  · subst q
    have e : (L.take i).length = i := by rw [List.length_take]; omega
    rw [nup_s]
    have := getD_app_r (a := L.take i) (x := v) (d := 0)
    rw [e] at this
    rw [this]
  · rw [nup_n _ _ q, getD_app_l (by rw [List.length_take]; omega)]
    rw [hr i (by omega), List.getD_eq_getElem?_getD, List.getD_eq_getElem?_getD, List.getElem?_take_of_lt (by omega)]
theorem stepL_of {L : List Nat} {g : Nat} (h2 : 2 ≤ L.length) (hg : gL L (L.length - 2) = g) : stepL L = some (ap1 (L.take g ++ [L.getD g 0 + 1]) (sm (L.drop (g + 1)) - 1)) := by
  unfold stepL ap1 on1
  rw [if_neg (by omega), hg]
  simp
theorem step_len {L : List Nat} (hL : okH L) {g : Nat} (hg : g + 2 ≤ L.length) : 1 ≤ sm (L.drop (g + 1)) ∧ (L.take g ++ [L.getD g 0 + 1]).length + (sm (L.drop (g + 1)) - 1) ≤ 12 := by
  have h1 := sm_take_drop L g
  have h2 := drop_s (L := L) (x := g) (by omega)
  have h3 := drop_s (L := L) (x := g + 1) (by omega)
  have h4 := okH_at hL (i := g) (by omega)
  have h5 := okH_at hL (i := g + 1) (by omega)
  have h6 : (L.take g).length ≤ sm (L.take g) := sm_len (fun x hx => hL.1 x (List.mem_of_mem_take hx))
  have h7 := hL.2
  rw [List.length_append]
  simp only [List.length_cons, List.length_nil]
  omega

set_option maxHeartbeats 4000000 in
set_option maxRecDepth 100000 in
theorem c_X3_appendOnes {l : Launch} (hfl : l.flags = flags0) (D : va_G) (g : GT) (z : ZT) (a b pa pb pd la : Nat) (fs : Nat → Option Nat) (L : List Nat) (gr sp mg nm : Int) (f hh : NF) (w : Nat) (hr : rep f L) (hw : L.length + w ≤ 12) : CV l yX3_appendOnes wsX3_appendOnes 2 45 1 D g z [.ref a, .int (iI (w : Int))] (svC g a b pa la fs ++ (stC g pa pb pd ((L.length : Nat) : Int) gr sp mg nm f hh)) (fun (u9 : NF) => rep u9 (ap1 L w)) (fun (u9 : NF) => svC g a b pa la fs ++ (stC g pa pb pd (((ap1 L w).length : Nat) : Int) gr sp mg nm u9 hh)) 0 0 := by
  refine CV_of hfl (own := RX3) ⟨1, 0, 0, 23⟩ 2 45 1 (by decide +kernel) rfl rfl ⟨by decide, by decide, by decide +kernel⟩ ⟨by decide, by decide⟩ (le_ble rfl) ?_
  intro p e s m below meth c A Q F hin ret
  change J p l e _ s m _ below meth c A D _ Q 0 0 (svC g a b pa la fs ++ (stC g pa pb pd ((L.length : Nat) : Int) gr sp mg nm f hh)) [(0, .ref a), (1, .int (iI (w : Int)))] [] 0
  refine j_iconst F dX3_appendOnes_0 ?_
  refine j_istore_n F (lv' := [(2, .int (iI 0)), (0, .ref a), (1, .int (iI (w : Int)))]) dX3_appendOnes_1 rfl (by decide) rfl ?_
  refine J.loc [0, 1, 2] rfl ?_
  refine J.wsEq (ws2 := svC g a b pa la fs ++ (stC g pa pb pd (((ap1 L 0).length : Nat) : Int) gr sp mg nm f hh)) (by rw [ap1_0]) ?_
  refine J_loop (σ := Nat × NF) (fun x9 : Nat × NF => match x9 with | (j, f1) => j ≤ w ∧ rep f1 (ap1 L j)) (fun x9 : Nat × NF => match x9 with | (j, f1) => w - j) (fun x9 : Nat × NF => match x9 with | (j, f1) => svC g a b pa la fs ++ (stC g pa pb pd (((ap1 L j).length : Nat) : Int) gr sp mg nm f1 hh)) (fun x9 : Nat × NF => match x9 with | (j, f1) => [(2, .int (iI (j : Int))), (0, .ref a), (1, .int (iI (w : Int)))]) (0, f) (by show 0 ≤ w ∧ rep f (ap1 L 0); exact ⟨Nat.zero_le _, by rw [ap1_0]; exact hr⟩) ?_
  rintro ⟨j, f1⟩ hI ih2
  have hI : j ≤ w ∧ rep f1 (ap1 L j) := hI
  obtain ⟨h1, h2⟩ := hI
  refine j_iload_n F dX3_appendOnes_2 rfl 0 rfl ?_
  refine j_iload_n F dX3_appendOnes_3 rfl 2 rfl ?_
  refine j_icmp_ge F (tgt := 28) dX3_appendOnes_4 (by decide) ⟨(by unfold rg; omega), (by unfold rg; omega)⟩ (fun c4 => ?_) (fun c4 => ?_)
  · have ej : j = w := by omega
    subst ej
    exact ret f1 0 0 _ _ dX3_appendOnes_28 (by decide) (by decide) h2
  · have hl9 : (ap1 L j).length = L.length + j := ap1_len L j
    refine j_aload_n F dX3_appendOnes_7 rfl 1 rfl ?_
    refine j_getf F (ref := "CairnGame$Solver") (C := RX3) (T := TX3) (N := 3) (ci := 3) (index := 20) (v := .ref pa) (fun w h => (List.mem_cons_of_mem _ (List.mem_append_left _ (List.mem_append_right _ h)))) 0 rfl rfl 1 (by decide) (List.mem_cons_of_mem _ (List.mem_append_left _ (List.mem_append_left _ (List.mem_of_getElem? (i := 0) rfl)))) rfl rfl dX3_appendOnes_8 ?_
    refine j_aload_n F dX3_appendOnes_11 rfl 1 rfl ?_
    refine j_getf F (ref := "CairnGame$Solver") (C := RX3) (T := TX3) (N := 3) (ci := 3) (index := 20) (v := .ref pa) (fun w h => (List.mem_cons_of_mem _ (List.mem_append_left _ (List.mem_append_right _ h)))) 0 rfl rfl 1 (by decide) (List.mem_cons_of_mem _ (List.mem_append_left _ (List.mem_append_left _ (List.mem_of_getElem? (i := 0) rfl)))) rfl rfl dX3_appendOnes_12 ?_
    refine j_getf F (ref := "CairnGame$State") (C := RX4) (T := TX4) (N := 7) (ci := 4) (index := 69) (v := .int (iI (((ap1 L j).length : Nat) : Int))) (fun w h => (List.mem_cons_of_mem _ (List.mem_append_right _ h))) 2 rfl rfl 1 (by decide) (List.mem_cons_of_mem _ (List.mem_append_left _ (List.mem_append_left _ (List.mem_of_getElem? (i := 1) rfl)))) rfl rfl dX3_appendOnes_15 ?_
    refine j_iconst F dX3_appendOnes_18 ?_
    refine j_callV_V F (As := [.int (iI (((ap1 L j).length : Nat) : Int)), .int (iI 1)]) (wr := svC g a b pa la fs) (st := []) (c_X4_insert hfl D g z pa pb pd (ap1 L j).length gr sp mg nm f1 hh (ap1 L j).length 1 (Nat.le_refl _) (by omega)) (idx := 79) (C := RX4) gX3_appendOnes_X4_insert rfl rfl [2, 3, 4] [0, 1] rfl rfl (by decide) (by decide) (by decide) (ci := 4) (q0 := 0) rfl rfl (by decide) (by decide) (le_ble rfl) ⟨by decide, by decide⟩ dX3_appendOnes_19 ?_
    rintro u9 h9
    refine J.wsEq (ws2 := svC g a b pa la fs ++ (stC g pa pb pd (((ap1 L j).length : Int) + 1) gr sp mg nm (insF f1 (ap1 L j).length (ap1 L j).length 1) hh)) rfl ?_
    refine J.wsEq (ws2 := svC g a b pa la fs ++ (stC g pa pb pd (((ap1 L (j + 1)).length : Nat) : Int) gr sp mg nm (insF f1 (ap1 L j).length (ap1 L j).length 1) hh)) (by rw [show (ap1 L (j + 1)).length = (ap1 L j).length + 1 by rw [ap1_len, ap1_len]; rfl]; rfl) ?_
    refine j_iinc F (lv' := [(2, .int (iI ((j : Int) + 1))), (0, .ref a), (1, .int (iI (w : Int)))]) dX3_appendOnes_22 0 rfl (by decide) rfl ?_
    refine j_goto F (tgt := 2) dX3_appendOnes_25 (by decide) ?_
    refine J.loc [0, 1, 2] rfl ?_
    exact ih2 ((j + 1), (insF f1 (ap1 L j).length (ap1 L j).length 1)) (by show (j + 1) ≤ w ∧ rep (insF f1 (ap1 L j).length (ap1 L j).length 1) (ap1 L (j + 1)); exact ⟨by omega, by rw [ap1_s]; exact rep_push h2 1⟩) (by show w - (j + 1) < w - j; omega)

set_option maxHeartbeats 4000000 in
set_option maxRecDepth 100000 in
theorem c_X3_startWithOnes {l : Launch} (hfl : l.flags = flags0) (D : va_G) (g : GT) (z : ZT) (a b pa pb pd la : Nat) (fs : Nat → Option Nat) (cn : Int) (gr sp mg nm : Int) (f hh : NF) (w : Nat) (hw : w ≤ 12) : CV l yX3_startWithOnes wsX3_startWithOnes 3 66 1 D g z [.ref a, .int (iI (w : Int))] (svC g a b pa la fs ++ (stC g pa pb pd cn gr sp mg nm f hh)) (fun (u9 : NF) => rep u9 (on1 w)) (fun (u9 : NF) => svC g a b pa la fs ++ (stC g pa pb pd (((on1 w).length : Nat) : Int) gr sp mg nm u9 hh)) 0 0 := by
  refine CV_of hfl (own := RX3) ⟨2, 0, 0, 45⟩ 3 66 1 (by decide +kernel) rfl rfl ⟨by decide, by decide, by decide +kernel⟩ ⟨by decide, by decide⟩ (le_ble rfl) ?_
  intro p e s m below meth c A Q F hin ret
  change J p l e _ s m _ below meth c A D _ Q 0 0 (svC g a b pa la fs ++ (stC g pa pb pd cn gr sp mg nm f hh)) [(0, .ref a), (1, .int (iI (w : Int)))] [] 0
  refine j_aload_n F dX3_startWithOnes_0 rfl 0 rfl ?_
  refine j_getf F (ref := "CairnGame$Solver") (C := RX3) (T := TX3) (N := 3) (ci := 3) (index := 20) (v := .ref pa) (fun w h => (List.mem_cons_of_mem _ (List.mem_append_left _ (List.mem_append_right _ h)))) 0 rfl rfl 1 (by decide) (List.mem_cons_of_mem _ (List.mem_append_left _ (List.mem_append_left _ (List.mem_of_getElem? (i := 0) rfl)))) rfl rfl dX3_startWithOnes_1 ?_
  refine j_iconst F dX3_startWithOnes_4 ?_
  refine j_putf F (ref := "CairnGame$State") (C := RX4) (T := TX4) (N := 7) (ci := 4) (index := 69) (ty := .int) (ws' := svC g a b pa la fs ++ (stC g pa pb pd 0 gr sp mg nm f hh)) (fun w h => (List.mem_cons_of_mem _ (List.mem_append_right _ h))) tyX4 tyX4_ok nmX4 2 rfl rfl 1 (by decide) (List.mem_cons_of_mem _ (List.mem_append_left _ (List.mem_append_left _ (List.mem_of_getElem? (i := 1) rfl)))) rfl rfl rfl rfl rfl (lt_ble rfl) rfl dX3_startWithOnes_5 ?_
  refine J.wsEq (ws2 := svC g a b pa la fs ++ (stC g pa pb pd (((([] : List Nat)).length : Nat) : Int) gr sp mg nm f hh)) (rfl) ?_
  refine j_aload_n F dX3_startWithOnes_8 rfl 0 rfl ?_
  refine j_iload_n F dX3_startWithOnes_9 rfl 1 rfl ?_
  refine j_callV_V F (As := [.int (iI (w : Int))]) (wr := []) (st := []) (c_X3_appendOnes hfl D g z a b pa pb pd la fs [] gr sp mg nm f hh w (fun i hi => absurd hi (Nat.not_lt_zero i)) (by simp only [List.length_nil]; omega)) (idx := 72) (C := RX3) gX3_startWithOnes_X3_appendOnes rfl rfl [0, 1, 2, 3, 4] [] rfl rfl (by decide) (by decide) (by decide) (ci := 3) (q0 := 0) rfl rfl (by decide) (by decide) (le_ble rfl) ⟨by decide, by decide⟩ dX3_startWithOnes_10 ?_
  rintro u8 h8
  refine J.wsEq (ws2 := svC g a b pa la fs ++ (stC g pa pb pd (((ap1 [] w).length : Nat) : Int) gr sp mg nm u8 hh)) rfl ?_
  refine J.wsEq (ws2 := svC g a b pa la fs ++ (stC g pa pb pd (((on1 w).length : Nat) : Int) gr sp mg nm u8 hh)) (rfl) ?_
  exact ret u8 0 0 _ _ dX3_startWithOnes_13 (by decide) (by decide) h8

set_option maxHeartbeats 4000000 in
set_option maxRecDepth 100000 in
theorem c_X3_stepOn {l : Launch} (hfl : l.flags = flags0) (D : va_G) (g : GT) (z : ZT) (a b pa pb pd la : Nat) (fs : Nat → Option Nat) (L : List Nat) (gr sp mg nm : Int) (f hh : NF) (hr : rep f L) (hL : okH L) : CI l yX3_stepOn wsX3_stepOn 3 69 0 D g z [.ref a] (svC g a b pa la fs ++ (stC g pa pb pd ((L.length : Nat) : Int) gr sp mg nm f hh)) (fun (r9 : Int32) (u9 : NF × List Nat) => r9 = iI (moI (stepL L)) ∧ ((stepL L = none ∧ u9 = (f, L)) ∨ (stepL L = some u9.2 ∧ rep u9.1 u9.2))) (fun (u9 : NF × List Nat) => svC g a b pa la fs ++ (stC g pa pb pd ((u9.2.length : Nat) : Int) gr sp mg nm u9.1 hh)) 0 0 := by
  refine CI_of hfl (own := RX3) ⟨2, 0, 0, 45⟩ 3 69 0 (by decide +kernel) rfl rfl ⟨by decide, by decide, by decide +kernel⟩ ⟨by decide, by decide⟩ (le_ble rfl) (fun _ _ h => nar_01 h.1 (by unfold moI; split <;> omega)) ?_
  intro p e s m below meth c A Q F ret
  change J p l e _ s m _ below meth c A D _ Q 0 0 (svC g a b pa la fs ++ (stC g pa pb pd ((L.length : Nat) : Int) gr sp mg nm f hh)) [(0, .ref a)] [] 0
  have hlen := okH_len hL
  refine j_aload_n F dX3_stepOn_0 rfl 0 rfl ?_
  refine j_getf F (ref := "CairnGame$Solver") (C := RX3) (T := TX3) (N := 3) (ci := 3) (index := 20) (v := .ref pa) (fun w h => (List.mem_cons_of_mem _ (List.mem_append_left _ (List.mem_append_right _ h)))) 0 rfl rfl 1 (by decide) (List.mem_cons_of_mem _ (List.mem_append_left _ (List.mem_append_left _ (List.mem_of_getElem? (i := 0) rfl)))) rfl rfl dX3_stepOn_1 ?_
  refine j_getf F (ref := "CairnGame$State") (C := RX4) (T := TX4) (N := 7) (ci := 4) (index := 75) (v := .ref pb) (fun w h => (List.mem_cons_of_mem _ (List.mem_append_right _ h))) 2 rfl rfl 0 (by decide) (List.mem_cons_of_mem _ (List.mem_append_left _ (List.mem_append_left _ (List.mem_of_getElem? (i := 1) rfl)))) rfl rfl dX3_stepOn_4 ?_
  refine j_astore_n F (lv' := [(1, .ref pb), (0, .ref a)]) dX3_stepOn_7 rfl (by decide) rfl ?_
  refine j_aload_n F dX3_stepOn_8 rfl 1 rfl ?_
  refine j_getf F (ref := "CairnGame$Solver") (C := RX3) (T := TX3) (N := 3) (ci := 3) (index := 20) (v := .ref pa) (fun w h => (List.mem_cons_of_mem _ (List.mem_append_left _ (List.mem_append_right _ h)))) 0 rfl rfl 1 (by decide) (List.mem_cons_of_mem _ (List.mem_append_left _ (List.mem_append_left _ (List.mem_of_getElem? (i := 0) rfl)))) rfl rfl dX3_stepOn_9 ?_
  refine j_getf F (ref := "CairnGame$State") (C := RX4) (T := TX4) (N := 7) (ci := 4) (index := 69) (v := .int (iI ((L.length : Nat) : Int))) (fun w h => (List.mem_cons_of_mem _ (List.mem_append_right _ h))) 2 rfl rfl 1 (by decide) (List.mem_cons_of_mem _ (List.mem_append_left _ (List.mem_append_left _ (List.mem_of_getElem? (i := 2) rfl)))) rfl rfl dX3_stepOn_12 ?_
  refine j_iconst F dX3_stepOn_15 ?_
  refine j_isub F dX3_stepOn_16 ?_
  refine j_istore_n F (lv' := [(2, .int (iI (((L.length : Nat) : Int) - 2))), (1, .ref pb), (0, .ref a)]) dX3_stepOn_17 rfl (by decide) rfl ?_
  refine J.loc [0, 1, 2] rfl ?_
  refine J_loop (σ := Int) (fun v : Int => (L.length < 2 ∧ v < 0 ∧ -2 ≤ v) ∨ (2 ≤ L.length ∧ (0 ≤ v ∧ v ≤ (L.length : Int) - 2) ∧ gL L (v).toNat = gL L (L.length - 2))) (fun v : Int => (v).toNat) (fun v : Int => svC g a b pa la fs ++ (stC g pa pb pd ((L.length : Nat) : Int) gr sp mg nm f hh)) (fun v : Int => [(2, .int (iI v)), (1, .ref pb), (0, .ref a)]) ((((L.length : Nat) : Int) - 2)) (by show (L.length < 2 ∧ (((L.length : Nat) : Int) - 2) < 0 ∧ -2 ≤ (((L.length : Nat) : Int) - 2)) ∨ (2 ≤ L.length ∧ (0 ≤ (((L.length : Nat) : Int) - 2) ∧ (((L.length : Nat) : Int) - 2) ≤ (L.length : Int) - 2) ∧ gL L ((((L.length : Nat) : Int) - 2)).toNat = gL L (L.length - 2)); exact (Nat.lt_or_ge L.length 2).elim (fun q => Or.inl ⟨q, by omega⟩) (fun q => Or.inr ⟨q, by omega, congrArg (gL L) (by omega)⟩)) ?_
  rintro v hI ih18
  have hI : (L.length < 2 ∧ v < 0 ∧ -2 ≤ v) ∨ (2 ≤ L.length ∧ (0 ≤ v ∧ v ≤ (L.length : Int) - 2) ∧ gL L (v).toNat = gL L (L.length - 2)) := hI
  have hvr : rg v := by unfold rg; omega
  refine j_iload_n F dX3_stepOn_18 rfl 0 rfl ?_
  refine j_if_le F (tgt := 39) dX3_stepOn_19 (by decide) (hvr) (fun c19 => ?_) (fun c19 => ?_)
  · refine j_iload_n F dX3_stepOn_39 rfl 0 rfl ?_
    refine j_if_ge F (tgt := 45) dX3_stepOn_40 (by decide) (hvr) (fun c40 => ?_) (fun c40 => ?_)
    · obtain ⟨h8, ⟨h9, h10⟩, h11⟩ := hI.resolve_left (fun q => by omega)
      have ev : v.toNat = 0 := by omega
      have hgv : gL L (L.length - 2) = v.toNat := by rw [← h11, ev]; rfl
      have hv2 : 2 ≤ L.length ∧ 0 ≤ v ∧ v ≤ (L.length : Int) - 2 := ⟨h8, h9, h10⟩
      obtain ⟨hsm, hlen9⟩ := step_len hL (g := v.toNat) (by omega)
      refine j_iconst F dX3_stepOn_45 ?_
      refine j_istore_n F (lv' := [(3, .int (iI (-1))), (2, .int (iI v)), (1, .ref pb), (0, .ref a)]) dX3_stepOn_46 rfl (by decide) rfl ?_
      refine j_iload_n F dX3_stepOn_47 rfl 1 rfl ?_
      refine j_iconst F dX3_stepOn_48 ?_
      refine j_iadd F dX3_stepOn_49 ?_
      refine J.top (congrArg iI (show (v + 1) = (((v.toNat + 1) : Nat) : Int) from by omega)) ?_
      refine j_istore F (lv' := [(4, .int (iI (((v.toNat + 1) : Nat) : Int))), (3, .int (iI (-1))), (2, .int (iI v)), (1, .ref pb), (0, .ref a)]) dX3_stepOn_50 (by decide) rfl ?_
      refine J.loc [0, 1, 2, 3, 4] rfl ?_
      refine J_loop (σ := Nat × Int) (fun x9 : Nat × Int => match x9 with | (x, rs) => (v.toNat + 1 ≤ x ∧ x ≤ L.length) ∧ rs + 1 + ((sm (L.drop x) : Nat) : Int) = ((sm (L.drop (v.toNat + 1)) : Nat) : Int)) (fun x9 : Nat × Int => match x9 with | (x, rs) => L.length - x) (fun x9 : Nat × Int => match x9 with | (x, rs) => svC g a b pa la fs ++ (stC g pa pb pd ((L.length : Nat) : Int) gr sp mg nm f hh)) (fun x9 : Nat × Int => match x9 with | (x, rs) => [(4, .int (iI (x : Int))), (3, .int (iI rs)), (2, .int (iI v)), (1, .ref pb), (0, .ref a)]) ((v.toNat + 1), (-1)) (by show (v.toNat + 1 ≤ (v.toNat + 1) ∧ (v.toNat + 1) ≤ L.length) ∧ (-1) + 1 + ((sm (L.drop (v.toNat + 1)) : Nat) : Int) = ((sm (L.drop (v.toNat + 1)) : Nat) : Int); exact ⟨by omega, by omega⟩) ?_
      rintro ⟨x, rs⟩ hI ih52
      have hI : (v.toNat + 1 ≤ x ∧ x ≤ L.length) ∧ rs + 1 + ((sm (L.drop x) : Nat) : Int) = ((sm (L.drop (v.toNat + 1)) : Nat) : Int) := hI
      obtain ⟨⟨k1, k2⟩, k3⟩ := hI
      refine j_iload F dX3_stepOn_52 0 rfl ?_
      refine j_aload_n F dX3_stepOn_54 rfl 4 rfl ?_
      refine j_getf F (ref := "CairnGame$Solver") (C := RX3) (T := TX3) (N := 3) (ci := 3) (index := 20) (v := .ref pa) (fun w h => (List.mem_cons_of_mem _ (List.mem_append_left _ (List.mem_append_right _ h)))) 0 rfl rfl 1 (by decide) (List.mem_cons_of_mem _ (List.mem_append_left _ (List.mem_append_left _ (List.mem_of_getElem? (i := 0) rfl)))) rfl rfl dX3_stepOn_55 ?_
      refine j_getf F (ref := "CairnGame$State") (C := RX4) (T := TX4) (N := 7) (ci := 4) (index := 69) (v := .int (iI ((L.length : Nat) : Int))) (fun w h => (List.mem_cons_of_mem _ (List.mem_append_right _ h))) 2 rfl rfl 1 (by decide) (List.mem_cons_of_mem _ (List.mem_append_left _ (List.mem_append_left _ (List.mem_of_getElem? (i := 2) rfl)))) rfl rfl dX3_stepOn_58 ?_
      refine j_icmp_ge F (tgt := 77) dX3_stepOn_61 (by decide) ⟨(by unfold rg; omega), (by unfold rg; omega)⟩ (fun c61 => ?_) (fun c61 => ?_)
      · have ex : x = L.length := by omega
        have hd0 : sm (L.drop x) = 0 := by rw [ex, List.drop_length]; rfl
        have hrs : rs = ((sm (L.drop (v.toNat + 1)) - 1 : Nat) : Int) := by omega
        have e4 := hr v.toNat (by omega)
        refine j_aload_n F dX3_stepOn_77 rfl 3 rfl ?_
        refine j_iload_n F dX3_stepOn_78 rfl 2 rfl ?_
        refine j_dup2 F dX3_stepOn_79 rfl rfl ?_
        refine j_iald F 3 (n := 12) (f := f) rfl v.toNat (by omega) (by omega) (by decide) dX3_stepOn_80 ?_
        refine J.top (congrArg iI (show f v.toNat = (((L.getD v.toNat 0) : Nat) : Int) from e4)) ?_
        refine j_iconst F dX3_stepOn_81 ?_
        refine j_iadd F dX3_stepOn_82 ?_
        refine J.top (congrArg iI (show ((((L.getD v.toNat 0) : Nat) : Int) + 1) = (((L.getD v.toNat 0 + 1) : Nat) : Int) from rfl)) ?_
        refine j_iast F (ws' := svC g a b pa la fs ++ (stC g pa pb pd ((L.length : Nat) : Int) gr sp mg nm (nup f v.toNat (((L.getD v.toNat 0 + 1) : Nat) : Int)) hh)) 3 (n := 12) (f := f) rfl v.toNat (by omega) (by omega) (by decide) rfl dX3_stepOn_83 ?_
        refine j_aload_n F dX3_stepOn_84 rfl 4 rfl ?_
        refine j_getf F (ref := "CairnGame$Solver") (C := RX3) (T := TX3) (N := 3) (ci := 3) (index := 20) (v := .ref pa) (fun w h => (List.mem_cons_of_mem _ (List.mem_append_left _ (List.mem_append_right _ h)))) 0 rfl rfl 1 (by decide) (List.mem_cons_of_mem _ (List.mem_append_left _ (List.mem_append_left _ (List.mem_of_getElem? (i := 0) rfl)))) rfl rfl dX3_stepOn_85 ?_
        refine j_iload_n F dX3_stepOn_88 rfl 2 rfl ?_
        refine j_iconst F dX3_stepOn_89 ?_
        refine j_iadd F dX3_stepOn_90 ?_
        refine J.top (congrArg iI (show (v + 1) = (((L.take v.toNat ++ [L.getD v.toNat 0 + 1]).length : Nat) : Int) from by rw [List.length_append, List.length_take]; simp only [List.length_cons, List.length_nil]; omega)) ?_
        refine j_putf F (ref := "CairnGame$State") (C := RX4) (T := TX4) (N := 7) (ci := 4) (index := 69) (ty := .int) (ws' := svC g a b pa la fs ++ (stC g pa pb pd (((L.take v.toNat ++ [L.getD v.toNat 0 + 1]).length : Nat) : Int) gr sp mg nm (nup f v.toNat (((L.getD v.toNat 0 + 1) : Nat) : Int)) hh)) (fun w h => (List.mem_cons_of_mem _ (List.mem_append_right _ h))) tyX4 tyX4_ok nmX4 2 rfl rfl 1 (by decide) (List.mem_cons_of_mem _ (List.mem_append_left _ (List.mem_append_left _ (List.mem_of_getElem? (i := 2) rfl)))) rfl rfl rfl rfl rfl (lt_ble rfl) rfl dX3_stepOn_91 ?_
        refine j_aload_n F dX3_stepOn_94 rfl 4 rfl ?_
        refine j_iload_n F dX3_stepOn_95 rfl 1 rfl ?_
        refine J.top (congrArg iI (show rs = (((sm (L.drop (v.toNat + 1)) - 1) : Nat) : Int) from hrs)) ?_
        refine j_callV_V F (As := [.int (iI (((sm (L.drop (v.toNat + 1)) - 1) : Nat) : Int))]) (wr := []) (st := []) (c_X3_appendOnes hfl D g z a b pa pb pd la fs (L.take v.toNat ++ [L.getD v.toNat 0 + 1]) gr sp mg nm (nup f v.toNat (((L.getD v.toNat 0 + 1) : Nat) : Int)) hh (sm (L.drop (v.toNat + 1)) - 1) (rep_take hr (by omega) _) hlen9) (idx := 72) (C := RX3) gX3_stepOn_X3_appendOnes rfl rfl [0, 1, 2, 3, 4] [] rfl rfl (by decide) (by decide) (by decide) (ci := 3) (q0 := 0) rfl rfl (by decide) (by decide) (le_ble rfl) ⟨by decide, by decide⟩ dX3_stepOn_96 ?_
        rintro u8 h8
        refine J.wsEq (ws2 := svC g a b pa la fs ++ (stC g pa pb pd ((((ap1 (L.take v.toNat ++ [L.getD v.toNat 0 + 1]) (sm (L.drop (v.toNat + 1)) - 1))).length : Nat) : Int) gr sp mg nm u8 hh)) rfl ?_
        refine j_iconst F dX3_stepOn_99 ?_
        exact ret _ (u8, (ap1 (L.take v.toNat ++ [L.getD v.toNat 0 + 1]) (sm (L.drop (v.toNat + 1)) - 1))) 0 0 _ _ dX3_stepOn_100 (by decide) (by decide) (⟨by rw [stepL_of hv2.1 hgv]; rfl, Or.inr ⟨stepL_of hv2.1 hgv, h8⟩⟩)
      · have e3 := hr x (by omega)
        refine j_iload_n F dX3_stepOn_64 rfl 1 rfl ?_
        refine j_aload_n F dX3_stepOn_65 rfl 3 rfl ?_
        refine j_iload F dX3_stepOn_66 0 rfl ?_
        refine j_iald F 3 (n := 12) (f := f) rfl x (rfl) (by omega) (by decide) dX3_stepOn_68 ?_
        refine J.top (congrArg iI (show f x = (((L.getD x 0) : Nat) : Int) from e3)) ?_
        refine j_iadd F dX3_stepOn_69 ?_
        refine j_istore_n F (lv' := [(3, .int (iI (rs + (((L.getD x 0) : Nat) : Int)))), (4, .int (iI (x : Int))), (2, .int (iI v)), (1, .ref pb), (0, .ref a)]) dX3_stepOn_70 rfl (by decide) rfl ?_
        refine j_iinc F (lv' := [(4, .int (iI ((x : Int) + 1))), (3, .int (iI (rs + (((L.getD x 0) : Nat) : Int)))), (2, .int (iI v)), (1, .ref pb), (0, .ref a)]) dX3_stepOn_71 1 rfl (by decide) rfl ?_
        refine j_goto F (tgt := 52) dX3_stepOn_74 (by decide) ?_
        refine J.loc [0, 1, 2, 3, 4] rfl ?_
        exact ih52 ((x + 1), (rs + (((L.getD x 0) : Nat) : Int))) (by show (v.toNat + 1 ≤ (x + 1) ∧ (x + 1) ≤ L.length) ∧ (rs + (((L.getD x 0) : Nat) : Int)) + 1 + ((sm (L.drop (x + 1)) : Nat) : Int) = ((sm (L.drop (v.toNat + 1)) : Nat) : Int); exact ⟨by omega, by have h7 := drop_s (L := L) (x := x) (by omega); omega⟩) (by show L.length - (x + 1) < L.length - x; omega)
    · refine j_iconst F dX3_stepOn_43 ?_
      exact ret _ (f, L) 0 0 _ _ dX3_stepOn_44 (by decide) (by decide) (by have q : stepL L = none := (by unfold stepL; rw [if_pos (by omega)]); exact ⟨by rw [q]; rfl, Or.inl ⟨q, rfl⟩⟩)
  · obtain ⟨h8, ⟨h9, h10⟩, h11⟩ := hI.resolve_left (fun q => by omega)
    have e1 := hr (v - 1).toNat (by omega)
    have e2 := hr v.toNat (by omega)
    refine j_aload_n F dX3_stepOn_22 rfl 1 rfl ?_
    refine j_iload_n F dX3_stepOn_23 rfl 0 rfl ?_
    refine j_iconst F dX3_stepOn_24 ?_
    refine j_isub F dX3_stepOn_25 ?_
    refine j_iald F 3 (n := 12) (f := f) rfl ((v - 1).toNat) (by omega) (by omega) (by decide) dX3_stepOn_26 ?_
    refine J.top (congrArg iI (show f ((v - 1).toNat) = (((L.getD (v - 1).toNat 0) : Nat) : Int) from e1)) ?_
    refine j_aload_n F dX3_stepOn_27 rfl 1 rfl ?_
    refine j_iload_n F dX3_stepOn_28 rfl 0 rfl ?_
    refine j_iald F 3 (n := 12) (f := f) rfl v.toNat (by omega) (by omega) (by decide) dX3_stepOn_29 ?_
    refine J.top (congrArg iI (show f v.toNat = (((L.getD v.toNat 0) : Nat) : Int) from e2)) ?_
    refine j_icmp_ne F (tgt := 39) dX3_stepOn_30 (by decide) ⟨(by have q1 := okH_at hL (i := (v - 1).toNat) (by omega); have q2 := okH_at hL (i := v.toNat) (by omega); unfold rg; omega), (by have q1 := okH_at hL (i := (v - 1).toNat) (by omega); have q2 := okH_at hL (i := v.toNat) (by omega); unfold rg; omega)⟩ (fun c30 => ?_) (fun c30 => ?_)
    · have hgv : gL L (L.length - 2) = v.toNat := by rw [← h11]; exact gL_n (by omega) (by omega)
      have hv2 : 2 ≤ L.length ∧ 0 ≤ v ∧ v ≤ (L.length : Int) - 2 := ⟨h8, h9, h10⟩
      refine j_iload_n F dX3_stepOn_39 rfl 0 rfl ?_
      refine j_if_ge F (tgt := 45) dX3_stepOn_40 (by decide) (hvr) (fun c40 => ?_) (fun h9 => absurd (by omega) h9)
      obtain ⟨hsm, hlen9⟩ := step_len hL (g := v.toNat) (by omega)
      refine j_iconst F dX3_stepOn_45 ?_
      refine j_istore_n F (lv' := [(3, .int (iI (-1))), (2, .int (iI v)), (1, .ref pb), (0, .ref a)]) dX3_stepOn_46 rfl (by decide) rfl ?_
      refine j_iload_n F dX3_stepOn_47 rfl 1 rfl ?_
      refine j_iconst F dX3_stepOn_48 ?_
      refine j_iadd F dX3_stepOn_49 ?_
      refine J.top (congrArg iI (show (v + 1) = (((v.toNat + 1) : Nat) : Int) from by omega)) ?_
      refine j_istore F (lv' := [(4, .int (iI (((v.toNat + 1) : Nat) : Int))), (3, .int (iI (-1))), (2, .int (iI v)), (1, .ref pb), (0, .ref a)]) dX3_stepOn_50 (by decide) rfl ?_
      refine J.loc [0, 1, 2, 3, 4] rfl ?_
      refine J_loop (σ := Nat × Int) (fun x9 : Nat × Int => match x9 with | (x, rs) => (v.toNat + 1 ≤ x ∧ x ≤ L.length) ∧ rs + 1 + ((sm (L.drop x) : Nat) : Int) = ((sm (L.drop (v.toNat + 1)) : Nat) : Int)) (fun x9 : Nat × Int => match x9 with | (x, rs) => L.length - x) (fun x9 : Nat × Int => match x9 with | (x, rs) => svC g a b pa la fs ++ (stC g pa pb pd ((L.length : Nat) : Int) gr sp mg nm f hh)) (fun x9 : Nat × Int => match x9 with | (x, rs) => [(4, .int (iI (x : Int))), (3, .int (iI rs)), (2, .int (iI v)), (1, .ref pb), (0, .ref a)]) ((v.toNat + 1), (-1)) (by show (v.toNat + 1 ≤ (v.toNat + 1) ∧ (v.toNat + 1) ≤ L.length) ∧ (-1) + 1 + ((sm (L.drop (v.toNat + 1)) : Nat) : Int) = ((sm (L.drop (v.toNat + 1)) : Nat) : Int); exact ⟨by omega, by omega⟩) ?_
      rintro ⟨x, rs⟩ hI ih52
      have hI : (v.toNat + 1 ≤ x ∧ x ≤ L.length) ∧ rs + 1 + ((sm (L.drop x) : Nat) : Int) = ((sm (L.drop (v.toNat + 1)) : Nat) : Int) := hI
      obtain ⟨⟨k1, k2⟩, k3⟩ := hI
      refine j_iload F dX3_stepOn_52 0 rfl ?_
      refine j_aload_n F dX3_stepOn_54 rfl 4 rfl ?_
      refine j_getf F (ref := "CairnGame$Solver") (C := RX3) (T := TX3) (N := 3) (ci := 3) (index := 20) (v := .ref pa) (fun w h => (List.mem_cons_of_mem _ (List.mem_append_left _ (List.mem_append_right _ h)))) 0 rfl rfl 1 (by decide) (List.mem_cons_of_mem _ (List.mem_append_left _ (List.mem_append_left _ (List.mem_of_getElem? (i := 0) rfl)))) rfl rfl dX3_stepOn_55 ?_
      refine j_getf F (ref := "CairnGame$State") (C := RX4) (T := TX4) (N := 7) (ci := 4) (index := 69) (v := .int (iI ((L.length : Nat) : Int))) (fun w h => (List.mem_cons_of_mem _ (List.mem_append_right _ h))) 2 rfl rfl 1 (by decide) (List.mem_cons_of_mem _ (List.mem_append_left _ (List.mem_append_left _ (List.mem_of_getElem? (i := 2) rfl)))) rfl rfl dX3_stepOn_58 ?_
      refine j_icmp_ge F (tgt := 77) dX3_stepOn_61 (by decide) ⟨(by unfold rg; omega), (by unfold rg; omega)⟩ (fun c61 => ?_) (fun c61 => ?_)
      · have ex : x = L.length := by omega
        have hd0 : sm (L.drop x) = 0 := by rw [ex, List.drop_length]; rfl
        have hrs : rs = ((sm (L.drop (v.toNat + 1)) - 1 : Nat) : Int) := by omega
        have e4 := hr v.toNat (by omega)
        refine j_aload_n F dX3_stepOn_77 rfl 3 rfl ?_
        refine j_iload_n F dX3_stepOn_78 rfl 2 rfl ?_
        refine j_dup2 F dX3_stepOn_79 rfl rfl ?_
        refine j_iald F 3 (n := 12) (f := f) rfl v.toNat (by omega) (by omega) (by decide) dX3_stepOn_80 ?_
        refine J.top (congrArg iI (show f v.toNat = (((L.getD v.toNat 0) : Nat) : Int) from e4)) ?_
        refine j_iconst F dX3_stepOn_81 ?_
        refine j_iadd F dX3_stepOn_82 ?_
        refine J.top (congrArg iI (show ((((L.getD v.toNat 0) : Nat) : Int) + 1) = (((L.getD v.toNat 0 + 1) : Nat) : Int) from rfl)) ?_
        refine j_iast F (ws' := svC g a b pa la fs ++ (stC g pa pb pd ((L.length : Nat) : Int) gr sp mg nm (nup f v.toNat (((L.getD v.toNat 0 + 1) : Nat) : Int)) hh)) 3 (n := 12) (f := f) rfl v.toNat (by omega) (by omega) (by decide) rfl dX3_stepOn_83 ?_
        refine j_aload_n F dX3_stepOn_84 rfl 4 rfl ?_
        refine j_getf F (ref := "CairnGame$Solver") (C := RX3) (T := TX3) (N := 3) (ci := 3) (index := 20) (v := .ref pa) (fun w h => (List.mem_cons_of_mem _ (List.mem_append_left _ (List.mem_append_right _ h)))) 0 rfl rfl 1 (by decide) (List.mem_cons_of_mem _ (List.mem_append_left _ (List.mem_append_left _ (List.mem_of_getElem? (i := 0) rfl)))) rfl rfl dX3_stepOn_85 ?_
        refine j_iload_n F dX3_stepOn_88 rfl 2 rfl ?_
        refine j_iconst F dX3_stepOn_89 ?_
        refine j_iadd F dX3_stepOn_90 ?_
        refine J.top (congrArg iI (show (v + 1) = (((L.take v.toNat ++ [L.getD v.toNat 0 + 1]).length : Nat) : Int) from by rw [List.length_append, List.length_take]; simp only [List.length_cons, List.length_nil]; omega)) ?_
        refine j_putf F (ref := "CairnGame$State") (C := RX4) (T := TX4) (N := 7) (ci := 4) (index := 69) (ty := .int) (ws' := svC g a b pa la fs ++ (stC g pa pb pd (((L.take v.toNat ++ [L.getD v.toNat 0 + 1]).length : Nat) : Int) gr sp mg nm (nup f v.toNat (((L.getD v.toNat 0 + 1) : Nat) : Int)) hh)) (fun w h => (List.mem_cons_of_mem _ (List.mem_append_right _ h))) tyX4 tyX4_ok nmX4 2 rfl rfl 1 (by decide) (List.mem_cons_of_mem _ (List.mem_append_left _ (List.mem_append_left _ (List.mem_of_getElem? (i := 2) rfl)))) rfl rfl rfl rfl rfl (lt_ble rfl) rfl dX3_stepOn_91 ?_
        refine j_aload_n F dX3_stepOn_94 rfl 4 rfl ?_
        refine j_iload_n F dX3_stepOn_95 rfl 1 rfl ?_
        refine J.top (congrArg iI (show rs = (((sm (L.drop (v.toNat + 1)) - 1) : Nat) : Int) from hrs)) ?_
        refine j_callV_V F (As := [.int (iI (((sm (L.drop (v.toNat + 1)) - 1) : Nat) : Int))]) (wr := []) (st := []) (c_X3_appendOnes hfl D g z a b pa pb pd la fs (L.take v.toNat ++ [L.getD v.toNat 0 + 1]) gr sp mg nm (nup f v.toNat (((L.getD v.toNat 0 + 1) : Nat) : Int)) hh (sm (L.drop (v.toNat + 1)) - 1) (rep_take hr (by omega) _) hlen9) (idx := 72) (C := RX3) gX3_stepOn_X3_appendOnes rfl rfl [0, 1, 2, 3, 4] [] rfl rfl (by decide) (by decide) (by decide) (ci := 3) (q0 := 0) rfl rfl (by decide) (by decide) (le_ble rfl) ⟨by decide, by decide⟩ dX3_stepOn_96 ?_
        rintro u8 h8
        refine J.wsEq (ws2 := svC g a b pa la fs ++ (stC g pa pb pd ((((ap1 (L.take v.toNat ++ [L.getD v.toNat 0 + 1]) (sm (L.drop (v.toNat + 1)) - 1))).length : Nat) : Int) gr sp mg nm u8 hh)) rfl ?_
        refine j_iconst F dX3_stepOn_99 ?_
        exact ret _ (u8, (ap1 (L.take v.toNat ++ [L.getD v.toNat 0 + 1]) (sm (L.drop (v.toNat + 1)) - 1))) 0 0 _ _ dX3_stepOn_100 (by decide) (by decide) (⟨by rw [stepL_of hv2.1 hgv]; rfl, Or.inr ⟨stepL_of hv2.1 hgv, h8⟩⟩)
      · have e3 := hr x (by omega)
        refine j_iload_n F dX3_stepOn_64 rfl 1 rfl ?_
        refine j_aload_n F dX3_stepOn_65 rfl 3 rfl ?_
        refine j_iload F dX3_stepOn_66 0 rfl ?_
        refine j_iald F 3 (n := 12) (f := f) rfl x (rfl) (by omega) (by decide) dX3_stepOn_68 ?_
        refine J.top (congrArg iI (show f x = (((L.getD x 0) : Nat) : Int) from e3)) ?_
        refine j_iadd F dX3_stepOn_69 ?_
        refine j_istore_n F (lv' := [(3, .int (iI (rs + (((L.getD x 0) : Nat) : Int)))), (4, .int (iI (x : Int))), (2, .int (iI v)), (1, .ref pb), (0, .ref a)]) dX3_stepOn_70 rfl (by decide) rfl ?_
        refine j_iinc F (lv' := [(4, .int (iI ((x : Int) + 1))), (3, .int (iI (rs + (((L.getD x 0) : Nat) : Int)))), (2, .int (iI v)), (1, .ref pb), (0, .ref a)]) dX3_stepOn_71 1 rfl (by decide) rfl ?_
        refine j_goto F (tgt := 52) dX3_stepOn_74 (by decide) ?_
        refine J.loc [0, 1, 2, 3, 4] rfl ?_
        exact ih52 ((x + 1), (rs + (((L.getD x 0) : Nat) : Int))) (by show (v.toNat + 1 ≤ (x + 1) ∧ (x + 1) ≤ L.length) ∧ (rs + (((L.getD x 0) : Nat) : Int)) + 1 + ((sm (L.drop (x + 1)) : Nat) : Int) = ((sm (L.drop (v.toNat + 1)) : Nat) : Int); exact ⟨by omega, by have h7 := drop_s (L := L) (x := x) (by omega); omega⟩) (by show L.length - (x + 1) < L.length - x; omega)
    · refine j_iinc F (lv' := [(2, .int (iI (v + (-1)))), (1, .ref pb), (0, .ref a)]) dX3_stepOn_33 0 rfl (by decide) rfl ?_
      refine j_goto F (tgt := 18) dX3_stepOn_36 (by decide) ?_
      refine J.loc [0, 1, 2] rfl ?_
      exact ih18 (v + (-1)) (by show (L.length < 2 ∧ (v + (-1)) < 0 ∧ -2 ≤ (v + (-1))) ∨ (2 ≤ L.length ∧ (0 ≤ (v + (-1)) ∧ (v + (-1)) ≤ (L.length : Int) - 2) ∧ gL L ((v + (-1))).toNat = gL L (L.length - 2)); exact Or.inr ⟨h8, by omega, by rw [← h11]; exact gL_s (by omega) (by omega)⟩) (by show ((v + (-1))).toNat < (v).toNat; omega)

end X3
