/-! ===== CairnGame: contracts (the share, play, digest, the start) ===== -/
section X6E
theorem dv0 : ∀ w, w < 85 → ∀ n, n < 85 → 0 < n → (FP.ddiv (FP.i2d (iI ((w : Nat) : Int))) (FP.i2d (iI ((n : Nat) : Int)))) &&& 0x7fffffffffffffff ≤ 0x7ff0000000000000 := by decide +kernel
theorem dv1 {w n : Nat} (h1 : w < 85) (h2 : n < 85) (h3 : 0 < n) : vf_n64 (FP.ddiv (FP.i2d (iI (w : Int))) (FP.i2d (iI (n : Int)))) := dv0 w h1 n h2 h3
def shD (w n : Nat) : UInt64 := if n = 0 then FP.dconst0 else FP.ddiv (FP.i2d (iI (w : Int))) (FP.i2d (iI (n : Int)))
def posD (G S M : Nat) (L : List Nat) (k q t : Nat) : Decidable (posMv G S M L k q t) := by unfold posMv; infer_instance
def cif {α : Type} (G S M : Nat) (L : List Nat) (k q t : Nat) (x y : α) : α := @ite α (posMv G S M L k q t) (posD G S M L k q t) x y
theorem cif_t {α : Type} {G S M : Nat} {L : List Nat} {k q t : Nat} {x y : α} (h : posMv G S M L k q t) : cif G S M L k q t x y = x := by unfold cif; rw [if_pos h]
theorem cif_f {α : Type} {G S M : Nat} {L : List Nat} {k q t : Nat} {x y : α} (h : ¬ posMv G S M L k q t) : cif G S M L k q t x y = y := by unfold cif; rw [if_neg h]
abbrev C3 : Type := Nat × Nat × Nat
def inc3 (k : Nat) (c : C3) : C3 := if k = 0 then (c.1 + 1, c.2.1, c.2.2) else if k = 1 then (c.1, c.2.1 + 1, c.2.2) else (c.1, c.2.1, c.2.2 + 1)
def cR3 (hh : NF) (c : C3) : Prop := hh 0 = (c.1 : Int) ∧ hh 1 = (c.2.1 : Int) ∧ hh 2 = (c.2.2 : Int)
theorem cR3_inc {hh : NF} {c : C3} (h : cR3 hh c) {k : Nat} (hk : k < 3) : cR3 (nup hh k (hh k + 1)) (inc3 k c) := by
  obtain ⟨h1, h2, h3⟩ := h
  unfold inc3
  rcases (show k = 0 ∨ k = 1 ∨ k = 2 by omega) with rfl | rfl | rfl
  · rw [if_pos rfl]
    exact ⟨by rw [nup_s, h1]; rfl, by rw [nup_n _ _ (by decide)]; exact h2, by rw [nup_n _ _ (by decide)]; exact h3⟩
  · rw [if_neg (by decide), if_pos rfl]
    exact ⟨by rw [nup_n _ _ (by decide)]; exact h1, by rw [nup_s, h2]; rfl, by rw [nup_n _ _ (by decide)]; exact h3⟩
  · rw [if_neg (by decide), if_neg (by decide)]
    exact ⟨by rw [nup_n _ _ (by decide)]; exact h1, by rw [nup_n _ _ (by decide)]; exact h2, by rw [nup_s, h3]; rfl⟩
/-- the moves of a text, played from t on; n may still be played -/
def plF (G S M : Nat) (T : List Nat) : Nat → Nat → List Nat → C3 → Nat → List Nat × C3 × Nat
  | 0, _, L, c, d => (L, c, d)
  | n + 1, t, L, c, d => if T.length ≤ t then (L, c, d) else
      cif G S M L (rdI T t 0 0).2.2.1.toNat (rdI T t 0 0).2.2.2.1.toNat (rdI T t 0 0).2.2.2.2.toNat
        (plF G S M T n ((rdI T t 0 0).2.1 + 1) (apL L (rdI T t 0 0).2.2.1.toNat (rdI T t 0 0).2.2.2.1.toNat (rdI T t 0 0).2.2.2.2.toNat) (inc3 (rdI T t 0 0).2.2.1.toNat c) (d + 1))
        (L, c, d)
theorem plF_out {G S M : Nat} {T : List Nat} {t : Nat} (h : T.length ≤ t) : ∀ (n : Nat) (L : List Nat) (c : C3) (d : Nat), plF G S M T n t L c d = (L, c, d)
  | 0, _, _, _ => rfl
  | n + 1, _, _, _ => by rw [plF, if_pos h]
theorem rdI_1 {T : List Nat} {t : Nat} {hp am : Int} (h : (rdI T t hp am).1 = 1) : t < T.length ∧ (0 ≤ (rdI T t hp am).2.2.1 ∧ (rdI T t hp am).2.2.1 ≤ 2) ∧ (0 ≤ (rdI T t hp am).2.2.2.1 ∧ (rdI T t hp am).2.2.2.1 ≤ 11) ∧ (0 ≤ (rdI T t hp am).2.2.2.2 ∧ (rdI T t hp am).2.2.2.2 ≤ 11) := by
  have h1 := rdH_b T (t + 1)
  have h2 := rdA_b T ((rdH T (t + 1)).2 + 1) (kindT (sgT T t))
  have h3 := kindT_r ((sgT T t : Nat) : Int)
  unfold rdI at h ⊢
  by_cases q1 : kindT ((sgT T t : Nat) : Int) = -1
  · rw [if_pos q1] at h
    exact absurd (show (0 : Int) = 1 from h) (by decide)
  · rw [if_neg q1] at h ⊢
    by_cases q2 : (rdH T (t + 1)).1 = -1
    · rw [if_pos q2] at h
      exact absurd (show (0 : Int) = 1 from h) (by decide)
    · rw [if_neg q2] at h ⊢
      by_cases q3 : sgT T (rdH T (t + 1)).2 = lnkT (kindT ((sgT T t : Nat) : Int))
      · rw [if_neg (fun z => z q3)] at h ⊢
        by_cases q4 : (rdA T ((rdH T (t + 1)).2 + 1) (kindT (sgT T t))).1 = -1
        · have e : (if (rdA T ((rdH T (t + 1)).2 + 1) (kindT (sgT T t))).1 = -1 then (0 : Int) else 1) = 1 := h
          rw [if_pos q4] at e
          exact absurd e (by decide)
        · refine ⟨?_, ?_, ?_, ?_⟩
          · rcases Nat.lt_or_ge t T.length with w | w
            · exact w
            · rw [sgT_out w] at q1
              exact absurd (show kindT ((0 : Nat) : Int) = -1 from rfl) q1
          · show 0 ≤ kindT _ ∧ kindT _ ≤ 2; omega
          · show 0 ≤ (rdH T (t + 1)).1 ∧ (rdH T (t + 1)).1 ≤ 11; omega
          · show 0 ≤ (rdA T _ _).1 ∧ (rdA T _ _).1 ≤ 11; omega
      · rw [if_pos q3] at h
        exact absurd (show (0 : Int) = 1 from h) (by decide)
/-- how a text goes on whose moves are all well told -/
theorem er_ok {T : List Nat} {n t : Nat} (h : erF T n t = -1) (ht : t < T.length) : ∃ m, n = m + 1 ∧ (rdI T t 0 0).1 = 1 ∧ (T.length ≤ (rdI T t 0 0).2.1 ∨ ((rdI T t 0 0).2.1 < T.length ∧ sgT T (rdI T t 0 0).2.1 = 44 ∧ erF T m ((rdI T t 0 0).2.1 + 1) = -1)) := by
  cases n with
  | zero =>
    have e : (t : Int) = -1 := h
    omega
  | succ m =>
    refine ⟨m, rfl, ?_⟩
    rw [erF] at h
    have h01 := rdI_01 T t 0 0
    by_cases q1 : (rdI T t 0 0).1 = 0
    · rw [if_pos q1] at h; omega
    · rw [if_neg q1] at h
      refine ⟨by omega, ?_⟩
      by_cases q2 : T.length ≤ (rdI T t 0 0).2.1
      · exact Or.inl q2
      · rw [if_neg q2] at h
        by_cases q3 : sgT T (rdI T t 0 0).2.1 = 44
        · rw [if_pos q3] at h
          exact Or.inr ⟨by omega, q3, h⟩
        · rw [if_neg q3] at h; omega
theorem pl_end {G S M : Nat} {T L : List Nat} {t d : Nat} {c : C3} {X : List Nat × C3 × Nat} (h : plF G S M T (60 - d) t L c d = X) (hq : 60 ≤ d ∨ T.length ≤ t ∨ (d < 60 ∧ t < T.length ∧ ¬ posMv G S M L (rdI T t 0 0).2.2.1.toNat (rdI T t 0 0).2.2.2.1.toNat (rdI T t 0 0).2.2.2.2.toNat)) : (L, c, d) = X := by
  rcases hq with q | q | ⟨q1, q2, q3⟩
  · rw [← h, show 60 - d = 0 by omega]; rfl
  · rw [← h, plF_out q]
  · obtain ⟨m, e⟩ : ∃ m, 60 - d = m + 1 := ⟨59 - d, by omega⟩
    rw [← h, e, plF, if_neg (by omega), cif_f q3]
theorem pl_step {G S M : Nat} {T L : List Nat} {t d : Nat} {c : C3} {X : List Nat × C3 × Nat} (h : plF G S M T (60 - d) t L c d = X) (hd : d < 60) (ht : t < T.length) (hp : posMv G S M L (rdI T t 0 0).2.2.1.toNat (rdI T t 0 0).2.2.2.1.toNat (rdI T t 0 0).2.2.2.2.toNat) (he : erF T (60 - d) t = -1) : plF G S M T (60 - (d + 1)) (rdS T (rdI T t 0 0).2.1 44) (apL L (rdI T t 0 0).2.2.1.toNat (rdI T t 0 0).2.2.2.1.toNat (rdI T t 0 0).2.2.2.2.toNat) (inc3 (rdI T t 0 0).2.2.1.toNat c) (d + 1) = X ∧ (T.length ≤ rdS T (rdI T t 0 0).2.1 44 ∨ erF T (60 - (d + 1)) (rdS T (rdI T t 0 0).2.1 44) = -1) := by
  obtain ⟨m, e, e1, e2⟩ := er_ok he ht
  have em : 60 - (d + 1) = m := by omega
  rw [e, plF, if_neg (by omega), cif_t hp] at h
  rw [em]
  rcases e2 with q | ⟨q1, q2, q3⟩
  · have e3 : rdS T (rdI T t 0 0).2.1 44 = (rdI T t 0 0).2.1 := by
      unfold rdS
      rw [sgT_out q, if_neg (by decide)]
    rw [e3]
    rw [plF_out (by omega)] at h
    exact ⟨by rw [plF_out q]; exact h, Or.inl q⟩
  · have e3 : rdS T (rdI T t 0 0).2.1 44 = (rdI T t 0 0).2.1 + 1 := by
      unfold rdS
      rw [if_pos q2]
    rw [e3]
    exact ⟨h, Or.inr q3⟩

set_option maxHeartbeats 4000000 in
set_option maxRecDepth 100000 in
theorem c_X6_winningShare {l : Launch} (hfl : l.flags = flags0) (D : va_G) (g : GT) (z : ZT) (ga sa ho la so ta sb sd : Nat) (l1 l2 l3 l4 : Nat) (lv : Int × NF × NF × NF × NF) (L : List Nat) (G S M Nn : Nat) (f hh : NF) (sor pa pb pd sll p1 p2 p3 p4 : Nat) (fs : Nat → Option Nat) (pv : PvT) (lw : LwT) (sols : List SolT) (hL : okH L) (hr : rep f L) (hG : 1 ≤ G ∧ G ≤ 5) (hS : S ≤ 1) (hM : M ≤ 1) (hN : Nn ≤ 1) (hsl : solsOK fs sols) : CD l yX6_winningShare wsX6_winningShare 7 183 0 D g z [.ref ga] (gmC ga sa ho la so ta ++ (stC g sa sb sd ((L.length : Nat) : Int) (G : Int) (S : Int) (M : Int) (Nn : Int) f hh ++ (mlC g la l1 l2 l3 l4 lv.1 lv.2.1 lv.2.2.1 lv.2.2.2.1 lv.2.2.2.2 ++ (svC g so sor pa sll fs ++ (stC g pa pb pd pv.1 pv.2.1 pv.2.2.1 pv.2.2.2.1 pv.2.2.2.2.1 pv.2.2.2.2.2.1 pv.2.2.2.2.2.2 ++ (mlC g sll p1 p2 p3 p4 lw.1 lw.2.1 lw.2.2.1 lw.2.2.2.1 lw.2.2.2.2 ++ ((solW g sols)))))))) (fun (r9 : UInt64) (u9 : (NF × NF × NF × NF) × SvT) => ((solsOK u9.2.1 u9.2.2.2.2 ∧ ∃ q, u9.2.1 (ruN G S M) = some q) ∧ mrepB L (mvL G S M L) u9.1.1 u9.1.2.1 u9.1.2.2.1 u9.1.2.2.2) ∧ r9 = shD (wcF (bhV G S M L) Nn (mvL G S M L).length) (mvL G S M L).length) (fun (u9 : (NF × NF × NF × NF) × SvT) => gmC ga sa ho la so ta ++ (stC g sa sb sd ((L.length : Nat) : Int) (G : Int) (S : Int) (M : Int) (Nn : Int) f hh ++ (mlC g la l1 l2 l3 l4 (((mvL G S M L).length : Nat) : Int) u9.1.1 u9.1.2.1 u9.1.2.2.1 u9.1.2.2.2 ++ (svC g so sor pa sll u9.2.1 ++ (stC g pa pb pd u9.2.2.1.1 u9.2.2.1.2.1 u9.2.2.1.2.2.1 u9.2.2.1.2.2.2.1 u9.2.2.1.2.2.2.2.1 u9.2.2.1.2.2.2.2.2.1 u9.2.2.1.2.2.2.2.2.2 ++ (mlC g sll p1 p2 p3 p4 u9.2.2.2.1.1 u9.2.2.2.1.2.1 u9.2.2.2.1.2.2.1 u9.2.2.2.1.2.2.2.1 u9.2.2.2.1.2.2.2.2 ++ ((solW g u9.2.2.2.2)))))))) 5 4101 := by
  refine CD_of hfl (own := RX6) ⟨6, 5, 4101, 161⟩ 7 183 0 (by decide +kernel) rfl rfl ⟨by decide, by decide, by decide +kernel⟩ ⟨by decide, by decide⟩ (le_ble rfl) ?_
  intro p e s m below meth c A Q F ret
  change J p l e _ s m _ below meth c A D _ Q 0 0 (gmC ga sa ho la so ta ++ (stC g sa sb sd ((L.length : Nat) : Int) (G : Int) (S : Int) (M : Int) (Nn : Int) f hh ++ (mlC g la l1 l2 l3 l4 lv.1 lv.2.1 lv.2.2.1 lv.2.2.2.1 lv.2.2.2.2 ++ (svC g so sor pa sll fs ++ (stC g pa pb pd pv.1 pv.2.1 pv.2.2.1 pv.2.2.2.1 pv.2.2.2.2.1 pv.2.2.2.2.2.1 pv.2.2.2.2.2.2 ++ (mlC g sll p1 p2 p3 p4 lw.1 lw.2.1 lw.2.2.1 lw.2.2.2.1 lw.2.2.2.2 ++ ((solW g sols)))))))) [(0, .ref ga)] [] 0
  have hlen := okH_len hL
  have h12 := hL.2
  have hml := mvL_len (g := G) (sp := S) (mg := M) hL
  have hbl := bhV_len G S M L
  have hwc := wcF_le (bhV G S M L) Nn (mvL G S M L).length
  refine j_aload_n F dX6_winningShare_0 rfl 0 rfl ?_
  refine J.wsEq (ws2 := (gmC ga sa ho la so ta ++ (stC g sa sb sd ((L.length : Nat) : Int) (G : Int) (S : Int) (M : Int) (Nn : Int) f hh ++ (mlC g la l1 l2 l3 l4 lv.1 lv.2.1 lv.2.2.1 lv.2.2.2.1 lv.2.2.2.2 ++ (svC g so sor pa sll fs ++ (stC g pa pb pd pv.1 pv.2.1 pv.2.2.1 pv.2.2.2.1 pv.2.2.2.2.1 pv.2.2.2.2.2.1 pv.2.2.2.2.2.2 ++ (mlC g sll p1 p2 p3 p4 lw.1 lw.2.1 lw.2.2.1 lw.2.2.2.1 lw.2.2.2.2 ++ ((solW g sols)))))))) ++ []) (List.append_nil _).symm ?_
  refine j_callVx_I F (As := []) (wr := []) (st := []) (c_X6_winningMoves hfl D g z ga sa ho la so ta sb sd l1 l2 l3 l4 lv L G S M Nn f hh sor pa pb pd sll p1 p2 p3 p4 fs pv lw sols hL hr hG hS hM hN hsl) (idx := 177) (C := RX6) gX6_winningShare_X6_winningMoves rfl rfl (ci := 6) (q0 := 0) rfl rfl (by decide) (by decide) (le_ble rfl) ⟨by decide, by decide⟩ dX6_winningShare_1 ?_
  rintro r9 uw ⟨⟨h1w, h2w⟩, rfl⟩
  refine J.wsEq (ws2 := gmC ga sa ho la so ta ++ (stC g sa sb sd ((L.length : Nat) : Int) (G : Int) (S : Int) (M : Int) (Nn : Int) f hh ++ (mlC g la l1 l2 l3 l4 (((mvL G S M L).length : Nat) : Int) uw.1.1 uw.1.2.1 uw.1.2.2.1 uw.1.2.2.2 ++ (svC g so sor pa sll uw.2.1 ++ (stC g pa pb pd uw.2.2.1.1 uw.2.2.1.2.1 uw.2.2.1.2.2.1 uw.2.2.1.2.2.2.1 uw.2.2.1.2.2.2.2.1 uw.2.2.1.2.2.2.2.2.1 uw.2.2.1.2.2.2.2.2.2 ++ (mlC g sll p1 p2 p3 p4 uw.2.2.2.1.1 uw.2.2.2.1.2.1 uw.2.2.2.1.2.2.1 uw.2.2.2.1.2.2.2.1 uw.2.2.2.1.2.2.2.2 ++ ((solW g uw.2.2.2.2)))))))) (by first | rfl | simp only [List.append_assoc, List.append_nil, List.nil_append]) ?_
  refine j_istore_n F (lv' := [(1, .int (iI (((wcF (bhV G S M L) Nn (mvL G S M L).length) : Nat) : Int))), (0, .ref ga)]) dX6_winningShare_4 rfl (by decide) rfl ?_
  refine j_aload_n F dX6_winningShare_5 rfl 1 rfl ?_
  refine J.wsEq (ws2 := (gmC ga sa ho la so ta ++ (stC g sa sb sd ((L.length : Nat) : Int) (G : Int) (S : Int) (M : Int) (Nn : Int) f hh ++ (mlC g la l1 l2 l3 l4 (((mvL G S M L).length : Nat) : Int) uw.1.1 uw.1.2.1 uw.1.2.2.1 uw.1.2.2.2))) ++ (svC g so sor pa sll uw.2.1 ++ (stC g pa pb pd uw.2.2.1.1 uw.2.2.1.2.1 uw.2.2.1.2.2.1 uw.2.2.1.2.2.2.1 uw.2.2.1.2.2.2.2.1 uw.2.2.1.2.2.2.2.2.1 uw.2.2.1.2.2.2.2.2.2 ++ (mlC g sll p1 p2 p3 p4 uw.2.2.2.1.1 uw.2.2.2.1.2.1 uw.2.2.2.1.2.2.1 uw.2.2.2.1.2.2.2.1 uw.2.2.2.1.2.2.2.2 ++ ((solW g uw.2.2.2.2)))))) (by simp only [List.append_assoc]) ?_
  refine j_callVx_I F (As := []) (wr := svC g so sor pa sll uw.2.1 ++ (stC g pa pb pd uw.2.2.1.1 uw.2.2.1.2.1 uw.2.2.1.2.2.1 uw.2.2.1.2.2.2.1 uw.2.2.1.2.2.2.2.1 uw.2.2.1.2.2.2.2.2.1 uw.2.2.1.2.2.2.2.2.2 ++ (mlC g sll p1 p2 p3 p4 uw.2.2.2.1.1 uw.2.2.2.1.2.1 uw.2.2.2.1.2.2.1 uw.2.2.2.1.2.2.2.1 uw.2.2.2.1.2.2.2.2 ++ ((solW g uw.2.2.2.2))))) (st := []) (c_X6_moves hfl D g z ga sa ho la so ta sb sd l1 l2 l3 l4 ((((mvL G S M L).length : Nat) : Int), uw.1.1, uw.1.2.1, uw.1.2.2.1, uw.1.2.2.2) L G S M Nn f hh hL hr hG hS hM hN) (idx := 180) (C := RX6) gX6_winningShare_X6_moves rfl rfl (ci := 6) (q0 := 0) rfl rfl (by decide) (by decide) (le_ble rfl) ⟨by decide, by decide⟩ dX6_winningShare_6 ?_
  rintro r9 um ⟨hf9, rfl⟩
  refine J.wsEq (ws2 := gmC ga sa ho la so ta ++ (stC g sa sb sd ((L.length : Nat) : Int) (G : Int) (S : Int) (M : Int) (Nn : Int) f hh ++ (mlC g la l1 l2 l3 l4 (((mvL G S M L).length : Nat) : Int) um.1 um.2.1 um.2.2.1 um.2.2.2 ++ (svC g so sor pa sll uw.2.1 ++ (stC g pa pb pd uw.2.2.1.1 uw.2.2.1.2.1 uw.2.2.1.2.2.1 uw.2.2.1.2.2.2.1 uw.2.2.1.2.2.2.2.1 uw.2.2.1.2.2.2.2.2.1 uw.2.2.1.2.2.2.2.2.2 ++ (mlC g sll p1 p2 p3 p4 uw.2.2.2.1.1 uw.2.2.2.1.2.1 uw.2.2.2.1.2.2.1 uw.2.2.2.1.2.2.2.1 uw.2.2.2.1.2.2.2.2 ++ ((solW g uw.2.2.2.2)))))))) (by first | rfl | simp only [List.append_assoc, List.append_nil, List.nil_append]) ?_
  refine j_istore_n F (lv' := [(2, .int (iI (((mvL G S M L).length : Nat) : Int))), (1, .int (iI (((wcF (bhV G S M L) Nn (mvL G S M L).length) : Nat) : Int))), (0, .ref ga)]) dX6_winningShare_9 rfl (by decide) rfl ?_
  refine j_iload_n F dX6_winningShare_10 rfl 0 rfl ?_
  refine j_if_le F (tgt := 22) dX6_winningShare_11 (by decide) (by unfold rg; omega) (fun c11 => ?_) (fun c11 => ?_)
  · refine j_dconst0 F dX6_winningShare_22 ?_
    exact ret _ (um, uw.2) 5 4101 _ _ dX6_winningShare_23 (by decide) (by decide) (⟨⟨h1w, hf9⟩, by unfold shD; rw [if_pos (by omega)]⟩)
  · refine j_iload_n F dX6_winningShare_14 rfl 1 rfl ?_
    refine j_i2d F dX6_winningShare_15 ?_
    refine j_iload_n F dX6_winningShare_16 rfl 0 rfl ?_
    refine j_i2d F dX6_winningShare_17 ?_
    refine j_ddiv F (dv1 (by omega) (by omega) (by omega)) dX6_winningShare_18 ?_
    refine j_goto F (tgt := 23) dX6_winningShare_19 (by decide) ?_
    exact ret _ (um, uw.2) 5 4101 _ _ dX6_winningShare_23 (by decide) (by decide) (⟨⟨h1w, hf9⟩, by unfold shD; rw [if_neg (by omega)]⟩)

theorem erF_r {T : List Nat} (hT : txOK T) : ∀ n t, t ≤ 1000 → -1 ≤ erF T n t ∧ erF T n t ≤ 2000
  | 0, t, h => ⟨by show (-1 : Int) ≤ (t : Int); omega, by show (t : Int) ≤ 2000; omega⟩
  | n + 1, t, h => by
    have hb := rdI_b T t 0 0
    have hl := hT.1
    rw [erF]
    split
    · omega
    · split
      · omega
      · split
        · rename_i q1 q2 q3
          exact erF_r hT n _ (by omega)
        · omega
theorem erT_r {T : List Nat} (hT : txOK T) : -1 ≤ erT T ∧ erT T ≤ 2000 := erF_r hT 60 0 (by omega)

end X6E
