/-! ===== LAW: what holds between two calls ===== -/
section LAWINV
/-- a saved state of the class tells a state of the game -/
def stR9 (v : StT) (x : GS) : Prop := v.1 = ((x.1.length : Nat) : Int) ∧ v.2.1 = ((x.2.1 : Nat) : Int) ∧ v.2.2.1 = ((x.2.2.1 : Nat) : Int) ∧ v.2.2.2.1 = ((x.2.2.2.1 : Nat) : Int) ∧ v.2.2.2.2.1 = ((x.2.2.2.2.1 : Nat) : Int) ∧ rep v.2.2.2.2.2.1 x.1 ∧ cR3 v.2.2.2.2.2.2 x.2.2.2.2.2
def boR (v : StT) : Prop := (v.2.2.1 = 0 ∨ v.2.2.1 = 1) ∧ (v.2.2.2.1 = 0 ∨ v.2.2.2.1 = 1) ∧ (v.2.2.2.2.1 = 0 ∨ v.2.2.2.2.1 = 1)
theorem cpT_R {w v : StT} {x : GS} (h : stR9 w x) (hl : x.1.length ≤ 12) : stR9 (cpT w v) x := by
  obtain ⟨h1, h2, h3, h4, h5, h6, h7, h8, h9⟩ := h
  refine ⟨h1, h2, h3, h4, h5, fun i hi => ?_, ?_, ?_, ?_⟩
  · show ncpy w.2.2.2.2.2.1 v.2.2.2.2.2.1 12 i = _
    unfold ncpy
    rw [if_pos (by omega)]
    exact h6 i hi
  · show ncpy w.2.2.2.2.2.2 v.2.2.2.2.2.2 3 0 = _
    unfold ncpy
    rw [if_pos (by decide)]
    exact h7
  · show ncpy w.2.2.2.2.2.2 v.2.2.2.2.2.2 3 1 = _
    unfold ncpy
    rw [if_pos (by decide)]
    exact h8
  · show ncpy w.2.2.2.2.2.2 v.2.2.2.2.2.2 3 2 = _
    unfold ncpy
    rw [if_pos (by decide)]
    exact h9
theorem stR9_bo {v : StT} {x : GS} (h : stR9 v x) (ok : okG x) : boR v := by
  obtain ⟨h1, h2, h3, h4, h5, -⟩ := h
  obtain ⟨-, -, k1, k2, k3⟩ := ok
  refine ⟨?_, ?_, ?_⟩
  · rw [h3]; omega
  · rw [h4]; omega
  · rw [h5]; omega
/-- the ring of the saved states -/
def ringR (hv : Nat → StT) (nx : Nat) (hs : List GS) : Prop := nx < 6 ∧ hs.length ≤ 6 ∧ (∀ i, i < hs.length → stR9 (hv ((nx + 6 - hs.length + i) % 6)) (hs.getD i g0)) ∧ ∀ k, k < 6 → boR (hv k)
theorem rcH_len (hs : List GS) (x : GS) (h : hs.length ≤ 6) : (rcH hs x).length = min (hs.length + 1) 6 := by
  unfold rcH
  rw [List.length_append, (rcP_len h).2]
  show _ + 1 = _
  split <;> omega
theorem ring_push {hv : Nat → StT} {nx : Nat} {hs : List GS} {v : StT} {x : GS} (H : ringR hv nx hs) (hx : stR9 v x) (ok : okG x) : ringR (hup hv nx v) ((nx + 1) % 6) (rcH hs x) := by
  obtain ⟨h1, h2, h3, h4⟩ := H
  have e := rcH_len hs x h2
  have ep := (rcP_len h2).2
  refine ⟨Nat.mod_lt _ (by decide), by rw [e]; omega, fun i hi => ?_, fun k hk => ?_⟩
  · rw [e] at hi ⊢
    unfold hup
    by_cases w : i = (rcP hs).length
    · have hz : ((nx + 1) % 6 + 6 - min (hs.length + 1) 6 + i) % 6 = nx := by
        rw [w, ep]
        split <;> omega
      rw [if_pos hz]
      unfold rcH
      rw [w, getD_app_r]
      exact hx
    · have hi2 : i < (rcP hs).length := by
        rw [ep] at w ⊢
        split at w <;> split <;> omega
      have hz : ¬ ((nx + 1) % 6 + 6 - min (hs.length + 1) 6 + i) % 6 = nx := by
        rw [ep] at hi2
        split at hi2 <;> omega
      rw [if_neg hz]
      unfold rcH
      rw [getD_app_l hi2]
      unfold rcP at hi2 ⊢
      by_cases h6 : hs.length = 6
      · rw [if_pos h6] at hi2 ⊢
        rw [List.length_drop] at hi2
        have e2 : (hs.drop 1).getD i g0 = hs.getD (i + 1) g0 := by
          rw [List.getD_eq_getElem?_getD, List.getD_eq_getElem?_getD, List.getElem?_drop, Nat.add_comm]
        rw [e2]
        have h9 := h3 (i + 1) (by omega)
        rw [show (nx + 6 - hs.length + (i + 1)) % 6 = ((nx + 1) % 6 + 6 - min (hs.length + 1) 6 + i) % 6 by omega] at h9
        exact h9
      · rw [if_neg h6] at hi2 ⊢
        have h9 := h3 i hi2
        rw [show (nx + 6 - hs.length + i) % 6 = ((nx + 1) % 6 + 6 - min (hs.length + 1) 6 + i) % 6 by omega] at h9
        exact h9
  · unfold hup
    by_cases w : k = nx
    · rw [if_pos w]
      exact stR9_bo hx ok
    · rw [if_neg w]
      exact h4 k hk
theorem take_g {hs : List GS} {n i : Nat} (h : i < n) : (hs.take n).getD i g0 = hs.getD i g0 := by
  rw [List.getD_eq_getElem?_getD, List.getD_eq_getElem?_getD, List.getElem?_take, if_pos h]
theorem ring_undo {hv : Nat → StT} {nx : Nat} {hs : List GS} (H : ringR hv nx hs) (h : 1 ≤ hs.length) : ringR hv ((nx + 5) % 6) (hs.take (hs.length - 1)) ∧ stR9 (hv ((nx + 5) % 6)) (hs.getD (hs.length - 1) g0) := by
  obtain ⟨h1, h2, h3, h4⟩ := H
  have el : (hs.take (hs.length - 1)).length = hs.length - 1 := by rw [List.length_take]; omega
  refine ⟨⟨Nat.mod_lt _ (by decide), by rw [el]; omega, fun i hi => ?_, h4⟩, ?_⟩
  · rw [el] at hi ⊢
    rw [take_g hi]
    have h9 := h3 i (by omega)
    rw [show (nx + 6 - hs.length + i) % 6 = ((nx + 5) % 6 + 6 - (hs.length - 1) + i) % 6 by omega] at h9
    exact h9
  · have h9 := h3 (hs.length - 1) (by omega)
    rw [show (nx + 6 - hs.length + (hs.length - 1)) % 6 = (nx + 5) % 6 by omega] at h9
    exact h9
def LInv (j : Nat) (L : List Nat) (G S M Nn : Nat) (c : C3) (hs : List GS) (T : List Nat) (f hh : NF) (hv : Nat → StT) (nx : Nat) (fs : Nat → Option Nat) (sols : List SolT) (tf mst mh mtx : NF) (w : TT) : Prop :=
  (okG (L, G, S, M, Nn, c) ∧ rep f L ∧ cR3 hh c ∧ stM mst L G S M Nn c ∧ cs3 c ≤ 60 * j) ∧ (ringR hv nx hs ∧ hisM mh hs ∧ ∀ x ∈ hs, okG x ∧ cs3 x.2.2.2.2.2 ≤ 60 * j) ∧ (txOK T ∧ rep tf T ∧ rep mtx T) ∧ solsOK fs sols ∧ tabS w
section INV
variable {j : Nat} {L : List Nat} {G S M Nn : Nat} {c : C3} {hs : List GS} {T : List Nat} {f hh : NF} {hv : Nat → StT} {nx : Nat} {fs : Nat → Option Nat} {sols : List SolT} {tf mst mh mtx : NF} {w : TT}
theorem inv_same (h : LInv j L G S M Nn c hs T f hh hv nx fs sols tf mst mh mtx w) {fs2 : Nat → Option Nat} {sols2 : List SolT} {w2 : TT} (h1 : solsOK fs2 sols2) (h2 : tabS w2) : LInv (j + 1) L G S M Nn c hs T f hh hv nx fs2 sols2 tf mst mh mtx w2 := by
  obtain ⟨⟨a1, a2, a3, a4, a5⟩, ⟨b1, b2, b3⟩, c1, -, -⟩ := h
  exact ⟨⟨a1, a2, a3, a4, by omega⟩, ⟨b1, b2, fun x hx => ⟨(b3 x hx).1, Nat.le_trans (b3 x hx).2 (by omega)⟩⟩, c1, h1, h2⟩
theorem inv_text (h : LInv j L G S M Nn c hs T f hh hv nx fs sols tf mst mh mtx w) {T2 : List Nat} {tf2 mtx2 : NF} (h1 : txOK T2) (h2 : rep tf2 T2) (h3 : rep mtx2 T2) : LInv (j + 1) L G S M Nn c hs T2 f hh hv nx fs sols tf2 mst mh mtx2 w := by
  obtain ⟨⟨a1, a2, a3, a4, a5⟩, ⟨b1, b2, b3⟩, -, d1, d2⟩ := h
  exact ⟨⟨a1, a2, a3, a4, by omega⟩, ⟨b1, b2, fun x hx => ⟨(b3 x hx).1, Nat.le_trans (b3 x hx).2 (by omega)⟩⟩, ⟨h1, h2, h3⟩, d1, d2⟩
theorem inv_new (h : LInv j L G S M Nn c hs T f hh hv nx fs sols tf mst mh mtx w) {L2 : List Nat} {G2 S2 M2 N2 : Nat} {c2 : C3} {f2 hh2 mst2 mh2 : NF} {w2 : TT} (h1 : okG (L2, G2, S2, M2, N2, c2)) (h2 : rep f2 L2) (h3 : cR3 hh2 c2) (h4 : stM mst2 L2 G2 S2 M2 N2 c2) (h5 : cs3 c2 ≤ cs3 c + 60) (h6 : hisM mh2 (rcH hs (L, G, S, M, Nn, c))) (h7 : tabS w2) : LInv (j + 1) L2 G2 S2 M2 N2 c2 (rcH hs (L, G, S, M, Nn, c)) T f2 hh2 (hup hv nx (cpT (((L.length : Nat) : Int), (G : Int), (S : Int), (M : Int), (Nn : Int), f, hh) (hv nx))) ((nx + 1) % 6) fs sols tf mst2 mh2 mtx w2 := by
  obtain ⟨⟨a1, a2, a3, a4, a5⟩, ⟨b1, b2, b3⟩, c1, d1, d2⟩ := h
  have hx : stR9 (((L.length : Nat) : Int), (G : Int), (S : Int), (M : Int), (Nn : Int), f, hh) (L, G, S, M, Nn, c) := ⟨rfl, rfl, rfl, rfl, rfl, a2, a3⟩
  refine ⟨⟨h1, h2, h3, h4, by omega⟩, ⟨ring_push b1 (cpT_R hx (okH_len a1.1)) a1, h6, fun x hx => ?_⟩, c1, d1, h7⟩
  unfold rcH at hx
  rcases List.mem_append.mp hx with q | q
  · have q2 : x ∈ hs := by
      unfold rcP at q
      split at q
      · exact List.mem_of_mem_drop q
      · exact q
    exact ⟨(b3 x q2).1, Nat.le_trans (b3 x q2).2 (by omega)⟩
  · rw [List.mem_singleton.mp q]
    exact ⟨a1, by show cs3 c ≤ _; omega⟩
theorem inv_undo (h : LInv j L G S M Nn c hs T f hh hv nx fs sols tf mst mh mtx w) (h0 : 1 ≤ hs.length) {x : GS} (hx : x = hs.getD (hs.length - 1) g0) {u : StT} (hu : u = cpT (hv ((nx + 5) % 6)) (((L.length : Nat) : Int), (G : Int), (S : Int), (M : Int), (Nn : Int), f, hh)) {mst2 : NF} (h1 : stMg mst2 x) : LInv (j + 1) x.1 x.2.1 x.2.2.1 x.2.2.2.1 x.2.2.2.2.1 x.2.2.2.2.2 (hs.take (hs.length - 1)) T u.2.2.2.2.2.1 u.2.2.2.2.2.2 hv ((nx + 5) % 6) fs sols tf mst2 mh mtx w ∧ stR9 u x := by
  obtain ⟨⟨a1, a2, a3, a4, a5⟩, ⟨b1, b2, b3⟩, c1, d1, d2⟩ := h
  obtain ⟨r1, r2⟩ := ring_undo b1 h0
  have hm := b3 _ (getD_mg (hs := hs) (i := hs.length - 1) (by omega))
  rw [← hx] at r2 hm
  have r3 : stR9 u x := by rw [hu]; exact cpT_R r2 (okH_len hm.1.1)
  exact ⟨⟨⟨hm.1, r3.2.2.2.2.2.1, r3.2.2.2.2.2.2, h1, by have := hm.2; omega⟩, ⟨r1, hisM_take b2 _, fun y hy => ⟨(b3 y (List.mem_of_mem_take hy)).1, Nat.le_trans (b3 y (List.mem_of_mem_take hy)).2 (by omega)⟩⟩, c1, d1, d2⟩, r3⟩
end INV
theorem inc3_cs (k : Nat) (c : C3) : cs3 (inc3 k c) = cs3 c + 1 := by
  unfold inc3 cs3
  split
  · show c.1 + 1 + c.2.1 + c.2.2 = _; omega
  · split
    · show c.1 + (c.2.1 + 1) + c.2.2 = _; omega
    · show c.1 + c.2.1 + (c.2.2 + 1) = _; omega
theorem plF_cs {G S M : Nat} {T : List Nat} : ∀ (n t : Nat) (L : List Nat) (c : C3) (d : Nat), cs3 (plF G S M T n t L c d).2.1 ≤ cs3 c + n
  | 0, _, _, _, _ => Nat.le_refl _
  | n + 1, t, L, c, d => by
    rw [plF]
    split
    · show cs3 c ≤ _; omega
    · unfold cif
      split
      · have h := plF_cs (G := G) (S := S) (M := M) (T := T) n ((rdI T t 0 0).2.1 + 1) (apL L (rdI T t 0 0).2.2.1.toNat (rdI T t 0 0).2.2.2.1.toNat (rdI T t 0 0).2.2.2.2.toNat) (inc3 (rdI T t 0 0).2.2.1.toNat c) (d + 1)
        rw [inc3_cs] at h
        omega
      · show cs3 c ≤ _; omega
end LAWINV
