/-! ===== LAW: what holds between two turns ===== -/
section WINV
theorem rep_app {f : NF} {L : List Nat} (hr : rep f L) (v : Nat) : rep (nup f L.length (v : Int)) (L ++ [v]) := by
  intro i hi
  rw [List.length_append] at hi
  by_cases q : i = L.length
  · rw [q, nup_s, getD_app_r]
  · have h2 : i < L.length := by
      have h9 : i < L.length + 1 := hi
      omega
    rw [nup_n _ _ q, getD_app_l h2]
    exact hr i h2
theorem okS_app {L : List Nat} (h : okS L) {v : Nat} (h1 : 1 ≤ v) (h2 : sm L + v ≤ 7) : okS (L ++ [v]) := by
  refine ⟨fun x hx => ?_, ?_⟩
  · rcases List.mem_append.mp hx with q | q
    · exact h.1 x q
    · rw [List.mem_singleton.mp q]; exact h1
  · rw [sm_app]
    show sm L + (v + 0) ≤ 7
    omega
theorem sm_take0 {G S M : Nat} {L : List Nat} {i v : Nat} (hp : posMv G S M L 0 i v) : sm (apL L 0 i v) = sm L - v := by
  obtain ⟨hi, h⟩ := hp
  have h2 : 1 ≤ v ∧ v ≤ L.getD i 0 := by omega
  have e0 := sm_perm (ex_perm hi)
  rw [sm] at e0
  rw [apL_0]
  by_cases q : L.getD i 0 - v = 0
  · rw [if_pos q]; omega
  · rw [if_neg q]
    have e1 := sm_perm (set_perm (L.getD i 0 - v) hi)
    rw [sm] at e1
    omega
def WI (j : Nat) (L : List Nat) (G S M Nn : Nat) (ck : C3) (f hh : NF) (nx ct : Nat) (fs : Nat → Option Nat) (sols : List SolT) (hF qF gF wF lF bF : NF) : Prop :=
  (okS L ∧ rep f L ∧ (1 ≤ G ∧ G ≤ 5) ∧ S ≤ 1 ∧ M ≤ 1 ∧ Nn ≤ 1) ∧ (cR3 hh ck ∧ ck.1 + ck.2.1 + ck.2.2 ≤ j) ∧ (nx < 6 ∧ ct ≤ 6 ∧ solsOK fs sols) ∧ rep hF L ∧ (qF 0 = (G : Int) ∧ qF 1 = (S : Int) ∧ qF 2 = (M : Int) ∧ qF 3 = (Nn : Int) ∧ qF 4 = ((L.length : Nat) : Int) ∧ qF 5 = ((ck.1 : Nat) : Int) ∧ qF 6 = ((ck.2.1 : Nat) : Int) ∧ qF 7 = ((ck.2.2 : Nat) : Int)) ∧ tabL G S M gF wF lF bF
section
variable {j : Nat} {L : List Nat} {G S M Nn : Nat} {ck : C3} {f hh : NF} {nx ct : Nat} {fs : Nat → Option Nat} {sols : List SolT} {hF qF gF wF lF bF : NF}
theorem nx6 (n : Nat) : (n + 1) % 6 < 6 := Nat.mod_lt _ (by decide)
theorem ct6 (n : Nat) : min (n + 1) 6 ≤ 6 := Nat.min_le_right _ _
theorem wi_up (h : WI j L G S M Nn ck f hh nx ct fs sols hF qF gF wF lF bF) : WI (j + 1) L G S M Nn ck f hh nx ct fs sols hF qF gF wF lF bF := by
  obtain ⟨h1, ⟨h2, h3⟩, h4⟩ := h
  exact ⟨h1, ⟨h2, by omega⟩, h4⟩
theorem wi_sol (h : WI j L G S M Nn ck f hh nx ct fs sols hF qF gF wF lF bF) {fs2 : Nat → Option Nat} {sols2 : List SolT} (hs : solsOK fs2 sols2) : WI j L G S M Nn ck f hh nx ct fs2 sols2 hF qF gF wF lF bF := by
  obtain ⟨h1, h2, ⟨h3, h4, -⟩, h5⟩ := h
  exact ⟨h1, h2, ⟨h3, h4, hs⟩, h5⟩
theorem wi_add (h : WI j L G S M Nn ck f hh nx ct fs sols hF qF gF wF lF bF) {v : Nat} (h1 : 1 ≤ v) (h2 : sm L + v ≤ 7) : WI (j + 1) (L ++ [v]) G S M Nn ck (insF f L.length L.length (v : Int)) hh ((nx + 1) % 6) (min (ct + 1) 6) fs sols (nup hF L.length (v : Int)) (nup qF 4 (((L.length : Nat) : Int) + 1)) gF wF lF bF := by
  obtain ⟨⟨a1, a2, a3⟩, ⟨b1, b2⟩, ⟨c1, c2, c3⟩, d1, ⟨e0, e1, e2, e3, e4, e5, e6, e7⟩, t1⟩ := h
  refine ⟨⟨okS_app a1 h1 h2, rep_push a2 v, a3⟩, ⟨b1, by omega⟩, ⟨nx6 _, ct6 _, c3⟩, rep_app d1 v, ⟨?_, ?_, ?_, ?_, ?_, ?_, ?_, ?_⟩, t1⟩
  · rw [nup_n _ _ (by decide)]; exact e0
  · rw [nup_n _ _ (by decide)]; exact e1
  · rw [nup_n _ _ (by decide)]; exact e2
  · rw [nup_n _ _ (by decide)]; exact e3
  · rw [nup_s, List.length_append]; rfl
  · rw [nup_n _ _ (by decide)]; exact e5
  · rw [nup_n _ _ (by decide)]; exact e6
  · rw [nup_n _ _ (by decide)]; exact e7
/-- places 4 to k - 1 are 0 -/
def zq (q : NF) (k : Nat) : NF := fun i => if 4 ≤ i ∧ i < k then 0 else q i
theorem zq_4 (q : NF) : zq q 4 = q := by
  funext i
  unfold zq
  rw [if_neg (by omega)]
theorem zq_s (q : NF) {k : Nat} (h : 4 ≤ k) : nup (zq q k) k 0 = zq q (k + 1) := by
  funext i
  unfold nup zq
  by_cases w : i = k
  · rw [if_pos w, if_pos (by omega)]
  · rw [if_neg w]
    by_cases w2 : 4 ≤ i ∧ i < k
    · rw [if_pos w2, if_pos (show 4 ≤ i ∧ i < k + 1 by omega)]
    · rw [if_neg w2, if_neg (show ¬ (4 ≤ i ∧ i < k + 1) by omega)]
theorem okS_nil : okS [] := ⟨fun x hx => absurd hx List.not_mem_nil, by decide⟩
theorem wi_begin (h : WI j L G S M Nn ck f hh nx ct fs sols hF qF gF wF lF bF) : WI (j + 1) [] G S M Nn (0, 0, 0) f (zrF hh 3) ((nx + 1) % 6) (min (ct + 1) 6) fs sols hF (zq qF 8) gF wF lF bF := by
  obtain ⟨⟨a1, a2, a3⟩, ⟨b1, b2⟩, ⟨c1, c2, c3⟩, d1, ⟨e0, e1, e2, e3, e4, e5, e6, e7⟩, t1⟩ := h
  exact ⟨⟨okS_nil, fun i hi => absurd hi (Nat.not_lt_zero i), a3⟩, ⟨⟨rfl, rfl, rfl⟩, Nat.zero_le _⟩, ⟨nx6 _, ct6 _, c3⟩, fun i hi => absurd hi (Nat.not_lt_zero i), ⟨e0, e1, e2, e3, rfl, rfl, rfl, rfl⟩, t1⟩
theorem wi_great (h : WI j L G S M Nn ck f hh nx ct fs sols hF qF gF wF lF bF) {G2 : Nat} (hg : 1 ≤ G2 ∧ G2 ≤ 5) {g2 w2 l2 b2_ : NF} (ht : tabL G2 S M g2 w2 l2 b2_) : WI (j + 1) L G2 S M Nn ck f hh ((nx + 1) % 6) (min (ct + 1) 6) fs sols hF (nup qF 0 (G2 : Int)) g2 w2 l2 b2_ := by
  obtain ⟨⟨a1, a2, a3, a4⟩, ⟨b1, b2⟩, ⟨c1, c2, c3⟩, d1, ⟨e0, e1, e2, e3, e4, e5, e6, e7⟩, t1⟩ := h
  refine ⟨⟨a1, a2, hg, a4⟩, ⟨b1, by omega⟩, ⟨nx6 _, ct6 _, c3⟩, d1, ⟨nup_s _ _ _, ?_, ?_, ?_, ?_, ?_, ?_, ?_⟩, ht⟩
  · rw [nup_n _ _ (by decide)]; exact e1
  · rw [nup_n _ _ (by decide)]; exact e2
  · rw [nup_n _ _ (by decide)]; exact e3
  · rw [nup_n _ _ (by decide)]; exact e4
  · rw [nup_n _ _ (by decide)]; exact e5
  · rw [nup_n _ _ (by decide)]; exact e6
  · rw [nup_n _ _ (by decide)]; exact e7
theorem wi_tS (h : WI j L G S M Nn ck f hh nx ct fs sols hF qF gF wF lF bF) {g2 w2 l2 b2_ : NF} (ht : tabL G (1 - S) M g2 w2 l2 b2_) : WI (j + 1) L G (1 - S) M Nn ck f hh ((nx + 1) % 6) (min (ct + 1) 6) fs sols hF (nup qF 1 ((1 - S : Nat) : Int)) g2 w2 l2 b2_ := by
  obtain ⟨⟨a1, a2, a3, a4, a5, a6⟩, ⟨b1, b2⟩, ⟨c1, c2, c3⟩, d1, ⟨e0, e1, e2, e3, e4, e5, e6, e7⟩, t1⟩ := h
  refine ⟨⟨a1, a2, a3, by omega, a5, a6⟩, ⟨b1, by omega⟩, ⟨nx6 _, ct6 _, c3⟩, d1, ⟨?_, nup_s _ _ _, ?_, ?_, ?_, ?_, ?_, ?_⟩, ht⟩
  · rw [nup_n _ _ (by decide)]; exact e0
  · rw [nup_n _ _ (by decide)]; exact e2
  · rw [nup_n _ _ (by decide)]; exact e3
  · rw [nup_n _ _ (by decide)]; exact e4
  · rw [nup_n _ _ (by decide)]; exact e5
  · rw [nup_n _ _ (by decide)]; exact e6
  · rw [nup_n _ _ (by decide)]; exact e7
theorem wi_tM (h : WI j L G S M Nn ck f hh nx ct fs sols hF qF gF wF lF bF) {g2 w2 l2 b2_ : NF} (ht : tabL G S (1 - M) g2 w2 l2 b2_) : WI (j + 1) L G S (1 - M) Nn ck f hh ((nx + 1) % 6) (min (ct + 1) 6) fs sols hF (nup qF 2 ((1 - M : Nat) : Int)) g2 w2 l2 b2_ := by
  obtain ⟨⟨a1, a2, a3, a4, a5, a6⟩, ⟨b1, b2⟩, ⟨c1, c2, c3⟩, d1, ⟨e0, e1, e2, e3, e4, e5, e6, e7⟩, t1⟩ := h
  refine ⟨⟨a1, a2, a3, a4, by omega, a6⟩, ⟨b1, by omega⟩, ⟨nx6 _, ct6 _, c3⟩, d1, ⟨?_, ?_, nup_s _ _ _, ?_, ?_, ?_, ?_, ?_⟩, ht⟩
  · rw [nup_n _ _ (by decide)]; exact e0
  · rw [nup_n _ _ (by decide)]; exact e1
  · rw [nup_n _ _ (by decide)]; exact e3
  · rw [nup_n _ _ (by decide)]; exact e4
  · rw [nup_n _ _ (by decide)]; exact e5
  · rw [nup_n _ _ (by decide)]; exact e6
  · rw [nup_n _ _ (by decide)]; exact e7
theorem wi_tN (h : WI j L G S M Nn ck f hh nx ct fs sols hF qF gF wF lF bF) : WI (j + 1) L G S M (1 - Nn) ck f hh ((nx + 1) % 6) (min (ct + 1) 6) fs sols hF (nup qF 3 ((1 - Nn : Nat) : Int)) gF wF lF bF := by
  obtain ⟨⟨a1, a2, a3, a4, a5, a6⟩, ⟨b1, b2⟩, ⟨c1, c2, c3⟩, d1, ⟨e0, e1, e2, e3, e4, e5, e6, e7⟩, t1⟩ := h
  refine ⟨⟨a1, a2, a3, a4, a5, by omega⟩, ⟨b1, by omega⟩, ⟨nx6 _, ct6 _, c3⟩, d1, ⟨?_, ?_, ?_, nup_s _ _ _, ?_, ?_, ?_, ?_⟩, t1⟩
  · rw [nup_n _ _ (by decide)]; exact e0
  · rw [nup_n _ _ (by decide)]; exact e1
  · rw [nup_n _ _ (by decide)]; exact e2
  · rw [nup_n _ _ (by decide)]; exact e4
  · rw [nup_n _ _ (by decide)]; exact e5
  · rw [nup_n _ _ (by decide)]; exact e6
  · rw [nup_n _ _ (by decide)]; exact e7
theorem pos_S {G S M : Nat} {L : List Nat} {k i v : Nat} (hL : okS L) (hp : posMv G S M L k i v) : okS (apL L k i v) := by
  have h9 := pos_ok (okS_H hL) hp
  refine ⟨h9.1, ?_⟩
  have h7 := hL.2
  obtain ⟨hi, ⟨rfl, h1, h2, h3⟩ | ⟨rfl, h1, h2, h3⟩ | ⟨rfl, h1, h2, h3⟩⟩ := hp
  · exact (ap_S (G := G) (S := S) (M := M) (m := (0, i, v)) hL ⟨hi, Or.inl ⟨rfl, h1, h3, h2⟩⟩).2
  · exact (ap_S (G := G) (S := S) (M := M) (m := (1, i, v)) hL ⟨hi, Or.inr (Or.inl ⟨rfl, h1, h2, h3⟩)⟩).2
  · rcases Nat.lt_or_ge i v with z | z
    · exact (ap_S (G := G) (S := S) (M := M) (m := (2, i, v)) hL ⟨hi, Or.inr (Or.inr ⟨rfl, h1, z, h2⟩)⟩).2
    · rw [apL_2c]
      exact (ap_S (G := G) (S := S) (M := M) (m := (2, v, i)) hL ⟨h2, Or.inr (Or.inr ⟨rfl, h1, by show v < i; omega, hi⟩)⟩).2
theorem wi_mv (h : WI j L G S M Nn ck f hh nx ct fs sols hF qF gF wF lF bF) {k i v : Nat} (hk : k < 3) (hp : posMv G S M L k i v) {f2 h2 : NF} (hf : rep f2 (apL L k i v)) (hh2 : rep h2 (apL L k i v)) {qv : Int} (hqv : qv = qF (5 + k) + 1) : WI (j + 1) (apL L k i v) G S M Nn (inc3 k ck) f2 (nup hh k (hh k + 1)) ((nx + 1) % 6) (min (ct + 1) 6) fs sols h2 (nup (nup qF 4 (((apL L k i v).length : Nat) : Int)) (5 + k) qv) gF wF lF bF := by
  obtain ⟨⟨a1, a2, a3⟩, ⟨b1, b2⟩, ⟨c1, c2, c3⟩, d1, ⟨e0, e1, e2, e3, e4, e5, e6, e7⟩, t1⟩ := h
  refine ⟨⟨pos_S a1 hp, hf, a3⟩, ⟨cR3_inc b1 hk, ?_⟩, ⟨nx6 _, ct6 _, c3⟩, hh2, ⟨?_, ?_, ?_, ?_, ?_, ?_, ?_, ?_⟩, t1⟩
  · unfold inc3
    split
    · show ck.1 + 1 + ck.2.1 + ck.2.2 ≤ j + 1; omega
    · split
      · show ck.1 + (ck.2.1 + 1) + ck.2.2 ≤ j + 1; omega
      · show ck.1 + ck.2.1 + (ck.2.2 + 1) ≤ j + 1; omega
  · rw [nup_n _ _ (by omega), nup_n _ _ (by decide)]; exact e0
  · rw [nup_n _ _ (by omega), nup_n _ _ (by decide)]; exact e1
  · rw [nup_n _ _ (by omega), nup_n _ _ (by decide)]; exact e2
  · rw [nup_n _ _ (by omega), nup_n _ _ (by decide)]; exact e3
  · rw [nup_n _ _ (by omega), nup_s]
  all_goals
    rcases (show k = 0 ∨ k = 1 ∨ k = 2 by omega) with rfl | rfl | rfl
  · rw [nup_s, hqv, e5]; rfl
  · rw [nup_n _ _ (by decide), nup_n _ _ (by decide), e5]; rfl
  · rw [nup_n _ _ (by decide), nup_n _ _ (by decide), e5]; rfl
  · rw [nup_n _ _ (by decide), nup_n _ _ (by decide), e6]; rfl
  · rw [nup_s, hqv, e6]; rfl
  · rw [nup_n _ _ (by decide), nup_n _ _ (by decide), e6]; rfl
  · rw [nup_n _ _ (by decide), nup_n _ _ (by decide), e7]; rfl
  · rw [nup_n _ _ (by decide), nup_n _ _ (by decide), e7]; rfl
  · rw [nup_s, hqv, e7]; rfl
end
/-- the best reply is a move, if there is one -/
theorem lm_0 {vs : List VT} : ∀ j, 1 ≤ j → 0 ≤ (lmF vs j).1 ∧ (lmF vs j).1 < j
  | 0, h => absurd h (by decide)
  | 1, _ => by
    have e : lmF vs (0 + 1) = (((0 : Nat) : Int), (((vs.getD 0 v0).2.2.1 : Nat) : Int)) := by
      rw [lmF]
      exact if_pos (by show (-1 : Int) < _; omega)
    show 0 ≤ (lmF vs (0 + 1)).1 ∧ (lmF vs (0 + 1)).1 < _
    rw [e]
    show (0 : Int) ≤ ((0 : Nat) : Int) ∧ ((0 : Nat) : Int) < ((1 : Nat) : Int)
    omega
  | j + 2, _ => by
    have ih := lm_0 (vs := vs) (j + 1) (by omega)
    rw [lmF]
    split
    · show 0 ≤ ((j + 1 : Nat) : Int) ∧ ((j + 1 : Nat) : Int) < ((j + 2 : Nat) : Int)
      omega
    · omega
theorem br_in {vs : List VT} {nm : Nat} (h : 1 ≤ vs.length) : ∃ k : Nat, k < vs.length ∧ brF vs nm = (k : Int) := by
  have h1 := fwF_b vs nm vs.length
  have h2 := lm_0 (vs := vs) vs.length h
  unfold brF
  by_cases q : fwF vs nm vs.length = -1
  · rw [if_pos q]
    exact ⟨(lmF vs vs.length).1.toNat, by omega, by omega⟩
  · rw [if_neg q]
    exact ⟨(fwF vs nm vs.length).toNat, by omega, by omega⟩
end WINV
