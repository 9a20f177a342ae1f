/-! ===== the model: a text is played; undo; the digest ===== -/
section X7I
theorem pl_stepM {G S M : Nat} {T L : List Nat} {t d kn qn tn : Nat} {c : C3} {X : List Nat × C3 × Nat} (h : plF G S M T (60 - d) t L c d = X) (ht : t < T.length) (he : erF T (60 - d) t = -1) (ek : (rdI T t 0 0).2.2.1 = (kn : Int)) (eq : (rdI T t 0 0).2.2.2.1 = (qn : Int)) (et : (rdI T t 0 0).2.2.2.2 = (tn : Int)) (hp : posMv G S M L kn qn tn) : plF G S M T (60 - (d + 1)) ((rdI T t 0 0).2.1 + 1) (apL L kn qn tn) (inc3 kn c) (d + 1) = X ∧ (T.length ≤ (rdI T t 0 0).2.1 + 1 ∨ erF T (60 - (d + 1)) ((rdI T t 0 0).2.1 + 1) = -1) := by
  obtain ⟨m, e, e1, e2⟩ := er_ok he ht
  have em : 60 - (d + 1) = m := by omega
  have k1 : (rdI T t 0 0).2.2.1.toNat = kn := by omega
  have k2 : (rdI T t 0 0).2.2.2.1.toNat = qn := by omega
  have k3 : (rdI T t 0 0).2.2.2.2.toNat = tn := by omega
  rw [e, plF, if_neg (by omega), k1, k2, k3, cif_t hp] at h
  rw [em]
  rcases e2 with q | ⟨q1, q2, q3⟩
  · exact ⟨h, Or.inl (by omega)⟩
  · exact ⟨h, Or.inr q3⟩
theorem pl_endM {G S M : Nat} {T L : List Nat} {t d kn qn tn : Nat} {c : C3} {X : List Nat × C3 × Nat} (h : plF G S M T (60 - d) t L c d = X) (ht : t < T.length) (hd : d < 60) (ek : (rdI T t 0 0).2.2.1 = (kn : Int)) (eq : (rdI T t 0 0).2.2.2.1 = (qn : Int)) (et : (rdI T t 0 0).2.2.2.2 = (tn : Int)) (hp : ¬ posMv G S M L kn qn tn) : (L, c, d) = X := by
  have k1 : (rdI T t 0 0).2.2.1.toNat = kn := by omega
  have k2 : (rdI T t 0 0).2.2.2.1.toNat = qn := by omega
  have k3 : (rdI T t 0 0).2.2.2.2.toNat = tn := by omega
  exact pl_end h (Or.inr (Or.inr ⟨hd, ht, by rw [k1, k2, k3]; exact hp⟩))
theorem why_tk {G S M : Nat} {L : List Nat} {q t : Nat} (hG : G ≤ 5) : whyTk L G (q : Int) (t : Int) = 0 ↔ posMv G S M L 0 q t := by
  unfold whyTk posMv
  rw [show ((q : Int)).toNat = q by omega]
  constructor
  · intro h
    by_cases h1 : 0 ≤ (q : Int) ∧ (q : Int) < (L.length : Int)
    · rw [if_neg (fun z => z h1)] at h
      by_cases h2 : 1 ≤ (t : Int) ∧ (t : Int) ≤ 5
      · rw [if_neg (fun z => z h2)] at h
        by_cases h3 : (G : Int) < (t : Int) ∨ ((L.getD q 0 : Nat) : Int) < (t : Int)
        · rw [if_pos h3] at h; omega
        · exact ⟨by omega, Or.inl ⟨rfl, by omega, by omega, by omega⟩⟩
      · rw [if_pos h2] at h; omega
    · rw [if_pos h1] at h; omega
  · rintro ⟨h1, ⟨-, h2⟩ | h2 | h2⟩
    · rw [if_neg (fun z => z (by omega)), if_neg (fun z => z (by omega)), if_neg (by omega)]
    · exact absurd h2.1 (by decide)
    · exact absurd h2.1 (by decide)
theorem why_sp {G S M : Nat} {L : List Nat} {q t : Nat} (hS : S ≤ 1) (hL : okH L) : whySp L S (q : Int) (t : Int) = 0 ↔ posMv G S M L 1 q t := by
  unfold whySp posMv
  rw [show ((q : Int)).toNat = q by omega]
  constructor
  · intro h
    by_cases h1 : 0 ≤ (q : Int) ∧ (q : Int) < (L.length : Int)
    · rw [if_neg (fun z => z h1)] at h
      by_cases h2 : 1 ≤ (t : Int) ∧ (t : Int) ≤ 6
      · rw [if_neg (fun z => z h2)] at h
        by_cases h3 : S = 0 ∨ ((L.getD q 0 : Nat) : Int) < 2 * (t : Int)
        · rw [if_pos h3] at h; omega
        · exact ⟨by omega, Or.inr (Or.inl ⟨rfl, by omega, by omega, by omega⟩)⟩
      · rw [if_pos h2] at h; omega
    · rw [if_pos h1] at h; omega
  · rintro ⟨h1, h2 | ⟨-, h2⟩ | h2⟩
    · exact absurd h2.1 (by decide)
    · have hx := okH_at hL h1
      rw [if_neg (fun z => z (by omega)), if_neg (fun z => z (by omega)), if_neg (by omega)]
    · exact absurd h2.1 (by decide)
theorem why_mg {G S M : Nat} {L : List Nat} {q t : Nat} : whyMg L M (q : Int) (t : Int) = 0 ↔ posMv G S M L 2 q t := by
  unfold whyMg posMv
  constructor
  · intro h
    by_cases h1 : (0 ≤ (q : Int) ∧ (q : Int) < (L.length : Int)) ∧ (0 ≤ (t : Int) ∧ (t : Int) < (L.length : Int))
    · rw [if_neg (fun z => z h1)] at h
      by_cases h2 : (q : Int) = (t : Int)
      · rw [if_pos h2] at h; omega
      · rw [if_neg h2] at h
        by_cases h3 : M = 1
        · exact ⟨by omega, Or.inr (Or.inr ⟨rfl, h3, by omega, by omega⟩)⟩
        · rw [if_neg h3] at h; omega
    · rw [if_pos h1] at h; omega
  · rintro ⟨h1, h2 | h2 | ⟨-, h2⟩⟩
    · exact absurd h2.1 (by decide)
    · exact absurd h2.1 (by decide)
    · rw [if_neg (fun z => z (by omega)), if_neg (by omega), if_pos h2.1]

theorem wtk_3 (L : List Nat) (G : Nat) (x t : Int) : whyTk L G x t ≤ 3 := by unfold whyTk; split <;> (try split) <;> (try split) <;> omega
theorem wsp_3 (L : List Nat) (G : Nat) (x t : Int) : whySp L G x t ≤ 3 := by unfold whySp; split <;> (try split) <;> (try split) <;> omega
theorem wmg_3 (L : List Nat) (G : Nat) (x t : Int) : whyMg L G x t ≤ 3 := by unfold whyMg; split <;> (try split) <;> (try split) <;> omega

set_option maxHeartbeats 1000000 in
set_option maxRecDepth 100000 in
theorem c_X7_play {l : Launch} (hfl : l.flags = flags0) (D : va_G) (g : GT) (z : ZT) (ad : Nat → Nat) (th : Int) (cC : CT) (cT : TT) (cL : LT) (cP : PT) (H : List Nat) (G S M Nn : Nat) (c3 : C3) (hs : List GS) (T : List Nat) (hTb : tabS cT) (hH : okH H) (hG : 1 ≤ G ∧ G ≤ 5) (hS : S ≤ 1) (hM : M ≤ 1) (hN : Nn ≤ 1) (hst : stM cC.1 H G S M Nn c3) (hok : ∀ x ∈ hs, okG x) (hh6 : hs.length ≤ 6) (hhs : hisM cC.2.1 hs) (hT : txOK T) (htr : rep cC.2.2.2.1 T) (her : erT T = -1) : CI l yX7_play wsX7_play 8 187 0 D g z [.ref (ad 0)] (moC g ad th (cC.1, cC.2.1, ((hs.length : Nat) : Int), cC.2.2.2.1, ((T.length : Nat) : Int)) cT cL cP) (fun (r9 : Int32) (u9 : NF × NF × TT × LT × PT) => ((okH (plF G S M T 60 0 H c3 0).1 ∧ stM u9.1 (plF G S M T 60 0 H c3 0).1 G S M Nn (plF G S M T 60 0 H c3 0).2.1 ∧ hisM u9.2.1 (rcH hs (H, G, S, M, Nn, c3))) ∧ tabS u9.2.2.1) ∧ r9 = iI (((plF G S M T 60 0 H c3 0).2.2 : Nat) : Int)) (fun (u9 : NF × NF × TT × LT × PT) => moC g ad 0 (u9.1, u9.2.1, (((rcH hs (H, G, S, M, Nn, c3)).length : Nat) : Int), cC.2.2.2.1, 0) (u9.2.2.1.1, u9.2.2.1.2.1, u9.2.2.1.2.2.1, u9.2.2.1.2.2.2.1, u9.2.2.1.2.2.2.2.1, u9.2.2.1.2.2.2.2.2.1, u9.2.2.1.2.2.2.2.2.2.1, u9.2.2.1.2.2.2.2.2.2.2) (u9.2.2.2.1.1, u9.2.2.2.1.2.1, u9.2.2.2.1.2.2.1, u9.2.2.2.1.2.2.2.1, u9.2.2.2.1.2.2.2.2.1, u9.2.2.2.1.2.2.2.2.2.1, u9.2.2.2.1.2.2.2.2.2.2.1, u9.2.2.2.1.2.2.2.2.2.2.2) (u9.2.2.2.2.1, u9.2.2.2.2.2.1, u9.2.2.2.2.2.2.1, u9.2.2.2.2.2.2.2.1, u9.2.2.2.2.2.2.2.2)) 0 0 := by
  refine CI_of hfl (own := RX7) ⟨7, 0, 0, 165⟩ 8 187 0 (by decide +kernel) rfl rfl ⟨by decide, by decide, by decide +kernel⟩ ⟨by decide, by decide⟩ (le_ble rfl) (fun _ _ _ => rfl) ?_
  intro p e s m below meth c A Q F ret
  change J p l e _ s m _ below meth c A D _ Q 0 0 (moC g ad th (cC.1, cC.2.1, ((hs.length : Nat) : Int), cC.2.2.2.1, ((T.length : Nat) : Int)) cT cL cP) [(0, .ref (ad 0))] [] 0
  have hlen := okH_len hH
  have hTl := hT.1
  refine j_aload_n F dX7_play_0 rfl 0 rfl ?_
  refine j_aload_n F dX7_play_1 rfl 0 rfl ?_
  refine j_callV_I F (As := []) (wr := []) (st := [.ref (ad 0)]) (c_X7_findError hfl D g z ad th (cC.1, cC.2.1, ((hs.length : Nat) : Int), cC.2.2.2.1, ((T.length : Nat) : Int)) cT cL cP T hT htr) (idx := 211) (C := RX7) gX7_play_X7_findError rfl rfl [0, 1, 2, 3, 4, 5, 6, 7, 8, 9, 10, 11, 12, 13, 14] [] rfl rfl (by decide) (by decide) (by decide) (ci := 7) (q0 := 0) rfl rfl (by decide) (by decide) (le_ble rfl) ⟨by decide, by decide⟩ dX7_play_2 ?_
  rintro r9 ue h9
  subst h9
  refine J.wsEq (ws2 := moC g ad th (cC.1, cC.2.1, ((hs.length : Nat) : Int), cC.2.2.2.1, ((T.length : Nat) : Int)) cT cL ue) rfl ?_
  refine j_iconst F dX7_play_5 ?_
  refine j_icmp_ne F (tgt := 13) dX7_play_6 (by decide) ⟨(by unfold rg; omega), (by unfold rg; omega)⟩ (fun h9 => by exfalso; omega) (fun c6 => ?_)
  refine j_iconst F dX7_play_9 ?_
  refine j_goto F (tgt := 14) dX7_play_10 (by decide) ?_
  refine j_putf F (ref := "CairnGameModel") (C := RX7) (T := TX7) (N := 27) (ci := 7) (index := 60) (ty := .int) (ws' := moC g ad 0 (cC.1, cC.2.1, ((hs.length : Nat) : Int), cC.2.2.2.1, ((T.length : Nat) : Int)) cT cL ue) (fun w h => (List.mem_cons_of_mem _ (List.mem_append_right _ h))) tyX7 tyX7_ok nmX7 0 rfl rfl 0 (by decide) (List.mem_cons_of_mem _ (List.mem_append_left _ (List.mem_append_left _ (List.mem_of_getElem? (l := wsX7_play_r1) (i := 0) rfl)))) rfl rfl rfl rfl rfl (lt_ble rfl) rfl dX7_play_14 ?_
  refine j_aload_n F dX7_play_17 rfl 0 rfl ?_
  refine j_getf F (ref := "CairnGameModel") (C := RX7) (T := TX7) (N := 27) (ci := 7) (index := 60) (v := .int (iI 0)) (fun w h => (List.mem_cons_of_mem _ (List.mem_append_right _ h))) 0 rfl rfl 0 (by decide) (List.mem_cons_of_mem _ (List.mem_append_left _ (List.mem_append_left _ (List.mem_of_getElem? (l := wsX7_play_r1) (i := 0) rfl)))) rfl rfl dX7_play_18 ?_
  refine j_if_le F (tgt := 26) dX7_play_21 (by decide) (by unfold rg; omega) (fun c21 => ?_) (fun h9 => by exfalso; omega)
  refine j_aload_n F dX7_play_26 rfl 0 rfl ?_
  refine j_callV_V F (As := []) (wr := []) (st := []) (c_X7_record hfl D g z ad 0 (cC.1, cC.2.1, ((hs.length : Nat) : Int), cC.2.2.2.1, ((T.length : Nat) : Int)) cT cL (ue.1, ue.2.1, ue.2.2.1, ue.2.2.2.1, ue.2.2.2.2) hs (H, G, S, M, Nn, c3) hok hh6 hhs hst hlen) (idx := 113) (C := RX7) gX7_play_X7_record rfl rfl [0, 1, 2, 3, 4, 5, 6, 7, 8, 9, 10, 11, 12, 13, 14] [] rfl rfl (by decide) (by decide) (by decide) (ci := 7) (q0 := 0) rfl rfl (by decide) (by decide) (le_ble rfl) ⟨by decide, by decide⟩ dX7_play_27 ?_
  rintro ur hr9
  refine J.wsEq (ws2 := moC g ad 0 (cC.1, ur, (((rcH hs (H, G, S, M, Nn, c3)).length : Nat) : Int), cC.2.2.2.1, ((T.length : Nat) : Int)) cT cL ue) rfl ?_
  refine j_iconst F dX7_play_30 ?_
  refine j_istore_n F (lv' := [(1, .int (iI 0)), (0, .ref (ad 0))]) dX7_play_31 rfl (by decide) rfl ?_
  refine j_aload_n F dX7_play_32 rfl 1 rfl ?_
  refine j_iconst F dX7_play_33 ?_
  refine j_putf F (ref := "CairnGameModel") (C := RX7) (T := TX7) (N := 27) (ci := 7) (index := 180) (ty := .int) (ws' := moC g ad 0 (cC.1, ur, (((rcH hs (H, G, S, M, Nn, c3)).length : Nat) : Int), cC.2.2.2.1, ((T.length : Nat) : Int)) cT cL (0, ue.2.1, ue.2.2.1, ue.2.2.2.1, ue.2.2.2.2)) (fun w h => (List.mem_cons_of_mem _ (List.mem_append_right _ h))) tyX7 tyX7_ok nmX7 0 rfl rfl 22 (by decide) (List.mem_cons_of_mem _ (List.mem_append_left _ (List.mem_append_left _ (List.mem_of_getElem? (l := wsX7_play_r1) (i := 1) rfl)))) rfl rfl rfl rfl rfl (lt_ble rfl) rfl dX7_play_34 ?_
  refine j_iconst F dX7_play_37 ?_
  refine j_istore_n F (lv' := [(2, .int (iI 1)), (1, .int (iI 0)), (0, .ref (ad 0))]) dX7_play_38 rfl (by decide) rfl ?_
  refine J.loc [0, 1, 2] rfl ?_
  refine J_loop (σ := Int × Nat × Nat × List Nat × C3 × NF × TT × LT × (Int × Int × Int × Int)) (fun x9 : Int × Nat × Nat × List Nat × C3 × NF × TT × LT × (Int × Int × Int × Int) => match x9 with | (b, t, d, L, c, f, w, x, pv) => ((b = 0 ∨ b = 1) ∧ d ≤ 60 ∧ t ≤ 61) ∧ okH L ∧ stM f L G S M Nn c ∧ tabS w ∧ (b = 1 → plF G S M T (60 - d) t L c d = (plF G S M T 60 0 H c3 0) ∧ (T.length ≤ t ∨ erF T (60 - d) t = -1)) ∧ (b = 0 → (L, c, d) = (plF G S M T 60 0 H c3 0))) (fun x9 : Int × Nat × Nat × List Nat × C3 × NF × TT × LT × (Int × Int × Int × Int) => match x9 with | (b, t, d, L, c, f, w, x, pv) => (if b = 0 then 0 else 201 - t)) (fun x9 : Int × Nat × Nat × List Nat × C3 × NF × TT × LT × (Int × Int × Int × Int) => match x9 with | (b, t, d, L, c, f, w, x, pv) => moC g ad 0 (f, ur, (((rcH hs (H, G, S, M, Nn, c3)).length : Nat) : Int), cC.2.2.2.1, ((T.length : Nat) : Int)) w x (((t : Nat) : Int), pv.1, pv.2.1, pv.2.2.1, pv.2.2.2)) (fun x9 : Int × Nat × Nat × List Nat × C3 × NF × TT × LT × (Int × Int × Int × Int) => match x9 with | (b, t, d, L, c, f, w, x, pv) => [(2, .int (iI b)), (1, .int (iI (d : Int))), (0, .ref (ad 0))]) (1, 0, 0, H, c3, cC.1, cT, cL, (ue.2.1, ue.2.2.1, ue.2.2.2.1, ue.2.2.2.2)) (by show ((1 = 0 ∨ 1 = 1) ∧ 0 ≤ 60 ∧ 0 ≤ 61) ∧ okH H ∧ stM cC.1 H G S M Nn c3 ∧ tabS cT ∧ (1 = 1 → plF G S M T (60 - 0) 0 H c3 0 = (plF G S M T 60 0 H c3 0) ∧ (T.length ≤ 0 ∨ erF T (60 - 0) 0 = -1)) ∧ (1 = 0 → (H, c3, 0) = (plF G S M T 60 0 H c3 0)); exact ⟨⟨Or.inr rfl, Nat.zero_le _, Nat.zero_le _⟩, hH, hst, hTb, fun _ => ⟨rfl, Or.inr her⟩, fun z => absurd z (by decide)⟩) ?_
  rintro ⟨b, t, d, L, c, f, w, x, pv⟩ hI ih39
  have hI : ((b = 0 ∨ b = 1) ∧ d ≤ 60 ∧ t ≤ 61) ∧ okH L ∧ stM f L G S M Nn c ∧ tabS w ∧ (b = 1 → plF G S M T (60 - d) t L c d = (plF G S M T 60 0 H c3 0) ∧ (T.length ≤ t ∨ erF T (60 - d) t = -1)) ∧ (b = 0 → (L, c, d) = (plF G S M T 60 0 H c3 0)) := hI
  obtain ⟨⟨i1, id, it⟩, i2, i3, i4, i5, i6⟩ := hI
  have hb01 : b = 0 ∨ b = 1 := i1
  refine j_iload_n F dX7_play_39 rfl 0 rfl ?_
  refine j_if_eq F (tgt := 161) dX7_play_40 (by decide) (by unfold rg; omega) (fun c40 => ?_) (fun c40 => ?_)
  · have hXf := i6 (by omega)
    refine j_aload_n F dX7_play_161 rfl 2 rfl ?_
    refine j_iconst F dX7_play_162 ?_
    refine j_putf F (ref := "CairnGameModel") (C := RX7) (T := TX7) (N := 27) (ci := 7) (index := 177) (ty := .int) (ws' := moC g ad 0 (f, ur, (((rcH hs (H, G, S, M, Nn, c3)).length : Nat) : Int), cC.2.2.2.1, 0) w x (((t : Nat) : Int), pv.1, pv.2.1, pv.2.2.1, pv.2.2.2)) (fun w h => (List.mem_cons_of_mem _ (List.mem_append_right _ h))) tyX7 tyX7_ok nmX7 0 rfl rfl 5 (by decide) (List.mem_cons_of_mem _ (List.mem_append_left _ (List.mem_append_left _ (List.mem_of_getElem? (l := wsX7_play_r1) (i := 2) rfl)))) rfl rfl rfl rfl rfl (lt_ble rfl) rfl dX7_play_163 ?_
    refine j_iload_n F dX7_play_166 rfl 1 rfl ?_
    exact ret _ (f, ur, w, x, (((t : Nat) : Int), pv)) 0 0 _ _ dX7_play_167 (by decide) (by decide) (⟨⟨⟨by rw [← hXf]; exact i2, by rw [← hXf]; exact i3, hr9⟩, i4⟩, by rw [← hXf]⟩)
  · obtain ⟨p1, p2⟩ := i5 (by omega)
    refine j_aload_n F dX7_play_43 rfl 2 rfl ?_
    refine j_getf F (ref := "CairnGameModel") (C := RX7) (T := TX7) (N := 27) (ci := 7) (index := 180) (v := .int (iI ((t : Nat) : Int))) (fun w h => (List.mem_cons_of_mem _ (List.mem_append_right _ h))) 0 rfl rfl 22 (by decide) (List.mem_cons_of_mem _ (List.mem_append_left _ (List.mem_append_left _ (List.mem_of_getElem? (l := wsX7_play_r1) (i := 1) rfl)))) rfl rfl dX7_play_44 ?_
    refine j_aload_n F dX7_play_47 rfl 2 rfl ?_
    refine j_getf F (ref := "CairnGameModel") (C := RX7) (T := TX7) (N := 27) (ci := 7) (index := 177) (v := .int (iI ((T.length : Nat) : Int))) (fun w h => (List.mem_cons_of_mem _ (List.mem_append_right _ h))) 0 rfl rfl 5 (by decide) (List.mem_cons_of_mem _ (List.mem_append_left _ (List.mem_append_left _ (List.mem_of_getElem? (l := wsX7_play_r1) (i := 2) rfl)))) rfl rfl dX7_play_48 ?_
    refine j_icmp_ge F (tgt := 161) dX7_play_51 (by decide) ⟨(by unfold rg; omega), (by unfold rg; omega)⟩ (fun c51 => ?_) (fun c51 => ?_)
    · have hXf := pl_end p1 (Or.inr (Or.inl (by omega)))
      refine j_aload_n F dX7_play_161 rfl 2 rfl ?_
      refine j_iconst F dX7_play_162 ?_
      refine j_putf F (ref := "CairnGameModel") (C := RX7) (T := TX7) (N := 27) (ci := 7) (index := 177) (ty := .int) (ws' := moC g ad 0 (f, ur, (((rcH hs (H, G, S, M, Nn, c3)).length : Nat) : Int), cC.2.2.2.1, 0) w x (((t : Nat) : Int), pv.1, pv.2.1, pv.2.2.1, pv.2.2.2)) (fun w h => (List.mem_cons_of_mem _ (List.mem_append_right _ h))) tyX7 tyX7_ok nmX7 0 rfl rfl 5 (by decide) (List.mem_cons_of_mem _ (List.mem_append_left _ (List.mem_append_left _ (List.mem_of_getElem? (l := wsX7_play_r1) (i := 2) rfl)))) rfl rfl rfl rfl rfl (lt_ble rfl) rfl dX7_play_163 ?_
      refine j_iload_n F dX7_play_166 rfl 1 rfl ?_
      exact ret _ (f, ur, w, x, (((t : Nat) : Int), pv)) 0 0 _ _ dX7_play_167 (by decide) (by decide) (⟨⟨⟨by rw [← hXf]; exact i2, by rw [← hXf]; exact i3, hr9⟩, i4⟩, by rw [← hXf]⟩)
    · have htl : t < T.length := by omega
      have p3 : erF T (60 - d) t = -1 := by rcases p2 with h9 | h9; (omega); exact h9
      obtain ⟨m9, em9, hr1, -⟩ := er_ok p3 htl
      have hd60 : d < 60 := by omega
      have hb9 := rdI_b T t 0 0
      refine j_aload_n F dX7_play_54 rfl 2 rfl ?_
      refine j_callV_I F (As := []) (wr := []) (st := []) (c_X7_readsItem hfl D g z ad 0 (f, ur, (((rcH hs (H, G, S, M, Nn, c3)).length : Nat) : Int), cC.2.2.2.1, ((T.length : Nat) : Int)) w x (((t : Nat) : Int), pv.1, pv.2.1, pv.2.2.1, pv.2.2.2) T t hT htr (by omega)) (idx := 208) (C := RX7) gX7_play_X7_readsItem rfl rfl [0, 1, 2, 3, 4, 5, 6, 7, 8, 9, 10, 11, 12, 13, 14] [] rfl rfl (by decide) (by decide) (by decide) (ci := 7) (q0 := 0) rfl rfl (by decide) (by decide) (le_ble rfl) ⟨by decide, by decide⟩ dX7_play_55 ?_
      rintro r9 u9 ⟨h8, h9⟩
      subst h9
      refine J.wsEq (ws2 := moC g ad 0 (f, ur, (((rcH hs (H, G, S, M, Nn, c3)).length : Nat) : Int), cC.2.2.2.1, ((T.length : Nat) : Int)) w x ((((rdI T t 0 0).2.1 : Nat) : Int), u9.1, u9.2.1, u9.2.2.1, u9.2.2.2)) rfl ?_
      obtain ⟨k1, k2, k3⟩ := h8 hr1
      have hin9 := rdI_in hr1
      obtain ⟨b1, b2_, b3, b4⟩ := rdI_1 hr1
      obtain ⟨kn, ekn⟩ : ∃ i9 : Nat, (rdI T t 0 0).2.2.1 = (i9 : Int) := ⟨((rdI T t 0 0).2.2.1).toNat, by omega⟩
      obtain ⟨qn, eqn⟩ : ∃ i9 : Nat, (rdI T t 0 0).2.2.2.1 = (i9 : Int) := ⟨((rdI T t 0 0).2.2.2.1).toNat, by omega⟩
      obtain ⟨tn, etn⟩ : ∃ i9 : Nat, (rdI T t 0 0).2.2.2.2 = (i9 : Int) := ⟨((rdI T t 0 0).2.2.2.2).toNat, by omega⟩
      refine J.wsEq (ws2 := moC g ad 0 (f, ur, (((rcH hs (H, G, S, M, Nn, c3)).length : Nat) : Int), cC.2.2.2.1, ((T.length : Nat) : Int)) w x ((((rdI T t 0 0).2.1 : Nat) : Int), (kn : Int), (qn : Int), (tn : Int), u9.2.2.2)) (by first | (rw [k1, k2, k3, ekn, eqn, etn]) | (dsimp only; rw [k1, k2, k3, ekn, eqn, etn])) ?_
      refine j_pop F dX7_play_58 rfl ?_
      refine j_aload_n F dX7_play_59 rfl 2 rfl ?_
      refine j_dup F dX7_play_60 rfl ?_
      refine j_getf F (ref := "CairnGameModel") (C := RX7) (T := TX7) (N := 27) (ci := 7) (index := 180) (v := .int (iI (((rdI T t 0 0).2.1 : Nat) : Int))) (fun w h => (List.mem_cons_of_mem _ (List.mem_append_right _ h))) 0 rfl rfl 22 (by decide) (List.mem_cons_of_mem _ (List.mem_append_left _ (List.mem_append_left _ (List.mem_of_getElem? (l := wsX7_play_r1) (i := 1) rfl)))) rfl rfl dX7_play_61 ?_
      refine j_iconst F dX7_play_64 ?_
      refine j_iadd F dX7_play_65 ?_
      refine j_putf F (ref := "CairnGameModel") (C := RX7) (T := TX7) (N := 27) (ci := 7) (index := 180) (ty := .int) (ws' := moC g ad 0 (f, ur, (((rcH hs (H, G, S, M, Nn, c3)).length : Nat) : Int), cC.2.2.2.1, ((T.length : Nat) : Int)) w x (((((rdI T t 0 0).2.1 : Nat) : Int) + 1), (kn : Int), (qn : Int), (tn : Int), u9.2.2.2)) (fun w h => (List.mem_cons_of_mem _ (List.mem_append_right _ h))) tyX7 tyX7_ok nmX7 0 rfl rfl 22 (by decide) (List.mem_cons_of_mem _ (List.mem_append_left _ (List.mem_append_left _ (List.mem_of_getElem? (l := wsX7_play_r1) (i := 1) rfl)))) rfl rfl rfl rfl rfl (lt_ble rfl) rfl dX7_play_66 ?_
      refine J.wsEq (ws2 := moC g ad 0 (f, ur, (((rcH hs (H, G, S, M, Nn, c3)).length : Nat) : Int), cC.2.2.2.1, ((T.length : Nat) : Int)) w x ((((rdI T t 0 0).2.1 + 1 : Nat) : Int), (kn : Int), (qn : Int), (tn : Int), u9.2.2.2)) (rfl) ?_
      refine j_aload_n F dX7_play_69 rfl 2 rfl ?_
      refine j_getf F (ref := "CairnGameModel") (C := RX7) (T := TX7) (N := 27) (ci := 7) (index := 196) (v := .int (iI (kn : Int))) (fun w h => (List.mem_cons_of_mem _ (List.mem_append_right _ h))) 0 rfl rfl 23 (by decide) (List.mem_cons_of_mem _ (List.mem_append_left _ (List.mem_append_left _ (List.mem_of_getElem? (l := wsX7_play_r1) (i := 3) rfl)))) rfl rfl dX7_play_70 ?_
      refine j_if_ne F (tgt := 91) dX7_play_73 (by decide) (by unfold rg; omega) (fun c73 => ?_) (fun c73 => ?_)
      · refine j_aload_n F dX7_play_91 rfl 2 rfl ?_
        refine j_getf F (ref := "CairnGameModel") (C := RX7) (T := TX7) (N := 27) (ci := 7) (index := 196) (v := .int (iI (kn : Int))) (fun w h => (List.mem_cons_of_mem _ (List.mem_append_right _ h))) 0 rfl rfl 23 (by decide) (List.mem_cons_of_mem _ (List.mem_append_left _ (List.mem_append_left _ (List.mem_of_getElem? (l := wsX7_play_r1) (i := 3) rfl)))) rfl rfl dX7_play_92 ?_
        refine j_iconst F dX7_play_95 ?_
        refine j_icmp_ne F (tgt := 114) dX7_play_96 (by decide) ⟨(by unfold rg; omega), (by unfold rg; omega)⟩ (fun c96 => ?_) (fun c96 => ?_)
        · refine j_aload_n F dX7_play_114 rfl 2 rfl ?_
          refine j_aload_n F dX7_play_115 rfl 2 rfl ?_
          refine j_getf F (ref := "CairnGameModel") (C := RX7) (T := TX7) (N := 27) (ci := 7) (index := 199) (v := .int (iI (qn : Int))) (fun w h => (List.mem_cons_of_mem _ (List.mem_append_right _ h))) 0 rfl rfl 24 (by decide) (List.mem_cons_of_mem _ (List.mem_append_left _ (List.mem_append_left _ (List.mem_of_getElem? (l := wsX7_play_r1) (i := 4) rfl)))) rfl rfl dX7_play_116 ?_
          refine j_aload_n F dX7_play_119 rfl 2 rfl ?_
          refine j_getf F (ref := "CairnGameModel") (C := RX7) (T := TX7) (N := 27) (ci := 7) (index := 190) (v := .int (iI (tn : Int))) (fun w h => (List.mem_cons_of_mem _ (List.mem_append_right _ h))) 0 rfl rfl 25 (by decide) (List.mem_cons_of_mem _ (List.mem_append_left _ (List.mem_append_left _ (List.mem_of_getElem? (l := wsX7_play_r1) (i := 5) rfl)))) rfl rfl dX7_play_120 ?_
          refine j_callV_I F (As := [.int (iI (qn : Int)), .int (iI (tn : Int))]) (wr := []) (st := []) (c_X7_whyNoMerge hfl D g z ad 0 (f, ur, (((rcH hs (H, G, S, M, Nn, c3)).length : Nat) : Int), cC.2.2.2.1, ((T.length : Nat) : Int)) w x ((((rdI T t 0 0).2.1 + 1 : Nat) : Int), (kn : Int), (qn : Int), (tn : Int), u9.2.2.2) L G S M Nn c (qn : Int) (tn : Int) i2 hG hS hM hN i3 (by unfold rg; omega) (by unfold rg; omega)) (idx := 142) (C := RX7) gX7_play_X7_whyNoMerge rfl rfl [0, 1, 2, 3, 4, 5, 6, 7, 8, 9, 10, 11, 12, 13, 14] [] rfl rfl (by decide) (by decide) (by decide) (ci := 7) (q0 := 0) rfl rfl (by decide) (by decide) (le_ble rfl) ⟨by decide, by decide⟩ dX7_play_123 ?_
          rintro r5 u5 h5
          subst h5
          refine J.wsEq (ws2 := moC g ad 0 (f, ur, (((rcH hs (H, G, S, M, Nn, c3)).length : Nat) : Int), cC.2.2.2.1, ((T.length : Nat) : Int)) w x ((((rdI T t 0 0).2.1 + 1 : Nat) : Int), (kn : Int), (qn : Int), (tn : Int), u9.2.2.2)) rfl ?_
          refine j_if_ne F (tgt := 133) dX7_play_126 (by decide) (by have h3 := wmg_3 L M (qn : Int) (tn : Int); unfold rg; omega) (fun c126 => ?_) (fun c126 => ?_)
          · have hnp : ¬ posMv G S M L kn qn tn := by rw [show kn = 2 by omega, ← (why_mg (G := G) (S := S) (M := M))]; omega
            have hXe := pl_endM p1 htl hd60 ekn eqn etn hnp
            refine j_iconst F dX7_play_133 ?_
            refine j_istore_n F (lv' := [(2, .int (iI 0)), (1, .int (iI (d : Int))), (0, .ref (ad 0))]) dX7_play_134 rfl (by decide) rfl ?_
            refine j_iload_n F dX7_play_135 rfl 0 rfl ?_
            refine j_if_eq F (tgt := 39) dX7_play_136 (by decide) (by unfold rg; omega) (fun c136 => ?_) (fun h9 => by exfalso; omega)
            refine J.loc [0, 1, 2] rfl ?_
            exact ih39 (0, ((rdI T t 0 0).2.1 + 1), d, L, c, f, (w.1, w.2.1, w.2.2.1, w.2.2.2.1, w.2.2.2.2.1, w.2.2.2.2.2.1, w.2.2.2.2.2.2.1, w.2.2.2.2.2.2.2), (x.1, x.2.1, x.2.2.1, x.2.2.2.1, x.2.2.2.2.1, x.2.2.2.2.2.1, x.2.2.2.2.2.2.1, x.2.2.2.2.2.2.2), ((kn : Int), (qn : Int), (tn : Int), u9.2.2.2)) (by show ((0 = 0 ∨ 0 = 1) ∧ d ≤ 60 ∧ ((rdI T t 0 0).2.1 + 1) ≤ 61) ∧ okH L ∧ stM f L G S M Nn c ∧ tabS (w.1, w.2.1, w.2.2.1, w.2.2.2.1, w.2.2.2.2.1, w.2.2.2.2.2.1, w.2.2.2.2.2.2.1, w.2.2.2.2.2.2.2) ∧ (0 = 1 → plF G S M T (60 - d) ((rdI T t 0 0).2.1 + 1) L c d = (plF G S M T 60 0 H c3 0) ∧ (T.length ≤ ((rdI T t 0 0).2.1 + 1) ∨ erF T (60 - d) ((rdI T t 0 0).2.1 + 1) = -1)) ∧ (0 = 0 → (L, c, d) = (plF G S M T 60 0 H c3 0)); first | exact ⟨⟨Or.inl rfl, id, by omega⟩, i2, i3, i4, fun z => absurd z (by decide), fun _ => hXe⟩ | exact ⟨⟨Or.inr rfl, by omega, by omega⟩, pos_ok i2 hyp, hm1, tabT_S hG.2 hS hM hm2, fun _ => ⟨n1, n2⟩, fun z => absurd z (by decide)⟩) (by show (if 0 = 0 then 0 else 201 - ((rdI T t 0 0).2.1 + 1)) < (if b = 0 then 0 else 201 - t); first | (rw [if_pos rfl, if_neg (by omega)]; omega) | (rw [if_neg (by decide), if_neg (by omega)]; omega))
          · have hyp : posMv G S M L kn qn tn := by rw [show kn = 2 by omega, ← (why_mg (G := G) (S := S) (M := M))]; omega
            obtain ⟨n1, n2⟩ := pl_stepM p1 htl p3 ekn eqn etn hyp
            refine j_iconst F dX7_play_129 ?_
            refine j_goto F (tgt := 134) dX7_play_130 (by decide) ?_
            refine j_istore_n F (lv' := [(2, .int (iI 1)), (1, .int (iI (d : Int))), (0, .ref (ad 0))]) dX7_play_134 rfl (by decide) rfl ?_
            refine j_iload_n F dX7_play_135 rfl 0 rfl ?_
            refine j_if_eq F (tgt := 39) dX7_play_136 (by decide) (by unfold rg; omega) (fun h9 => by exfalso; omega) (fun c136 => ?_)
            refine j_aload_n F dX7_play_139 rfl 2 rfl ?_
            refine j_aload_n F dX7_play_140 rfl 2 rfl ?_
            refine j_getf F (ref := "CairnGameModel") (C := RX7) (T := TX7) (N := 27) (ci := 7) (index := 196) (v := .int (iI (kn : Int))) (fun w h => (List.mem_cons_of_mem _ (List.mem_append_right _ h))) 0 rfl rfl 23 (by decide) (List.mem_cons_of_mem _ (List.mem_append_left _ (List.mem_append_left _ (List.mem_of_getElem? (l := wsX7_play_r1) (i := 3) rfl)))) rfl rfl dX7_play_141 ?_
            refine j_aload_n F dX7_play_144 rfl 2 rfl ?_
            refine j_getf F (ref := "CairnGameModel") (C := RX7) (T := TX7) (N := 27) (ci := 7) (index := 199) (v := .int (iI (qn : Int))) (fun w h => (List.mem_cons_of_mem _ (List.mem_append_right _ h))) 0 rfl rfl 24 (by decide) (List.mem_cons_of_mem _ (List.mem_append_left _ (List.mem_append_left _ (List.mem_of_getElem? (l := wsX7_play_r1) (i := 4) rfl)))) rfl rfl dX7_play_145 ?_
            refine j_aload_n F dX7_play_148 rfl 2 rfl ?_
            refine j_getf F (ref := "CairnGameModel") (C := RX7) (T := TX7) (N := 27) (ci := 7) (index := 190) (v := .int (iI (tn : Int))) (fun w h => (List.mem_cons_of_mem _ (List.mem_append_right _ h))) 0 rfl rfl 25 (by decide) (List.mem_cons_of_mem _ (List.mem_append_left _ (List.mem_append_left _ (List.mem_of_getElem? (l := wsX7_play_r1) (i := 5) rfl)))) rfl rfl dX7_play_149 ?_
            refine j_callV_V F (As := [.int (iI (kn : Int)), .int (iI (qn : Int)), .int (iI (tn : Int))]) (wr := []) (st := []) (c_X7_makes hfl D g z ad 0 (f, ur, (((rcH hs (H, G, S, M, Nn, c3)).length : Nat) : Int), cC.2.2.2.1, ((T.length : Nat) : Int)) w x ((((rdI T t 0 0).2.1 + 1 : Nat) : Int), (kn : Int), (qn : Int), (tn : Int), u9.2.2.2) L G S M Nn c kn qn tn i4 i2 hG hS hM hN i3 hyp) (idx := 136) (C := RX7) gX7_play_X7_makes rfl rfl [0, 1, 2, 3, 4, 5, 6, 7, 8, 9, 10, 11, 12, 13, 14] [] rfl rfl (by decide) (by decide) (by decide) (ci := 7) (q0 := 0) rfl rfl (by decide) (by decide) (le_ble rfl) ⟨by decide, by decide⟩ dX7_play_152 ?_
            rintro um ⟨hm1, hm2⟩
            refine J.wsEq (ws2 := moC g ad 0 (um.1, ur, (((rcH hs (H, G, S, M, Nn, c3)).length : Nat) : Int), cC.2.2.2.1, ((T.length : Nat) : Int)) (um.2.1.1, um.2.1.2.1, um.2.1.2.2.1, um.2.1.2.2.2.1, um.2.1.2.2.2.2.1, um.2.1.2.2.2.2.2.1, um.2.1.2.2.2.2.2.2.1, um.2.1.2.2.2.2.2.2.2) (um.2.2.1, um.2.2.2.1, um.2.2.2.2.1, um.2.2.2.2.2.1, um.2.2.2.2.2.2.1, um.2.2.2.2.2.2.2.1, um.2.2.2.2.2.2.2.2.1, um.2.2.2.2.2.2.2.2.2) ((((rdI T t 0 0).2.1 + 1 : Nat) : Int), (kn : Int), (qn : Int), (tn : Int), u9.2.2.2)) rfl ?_
            refine j_iinc F (lv' := [(1, .int (iI ((d : Int) + 1))), (2, .int (iI 1)), (0, .ref (ad 0))]) dX7_play_155 1 rfl (by decide) rfl ?_
            refine j_goto F (tgt := 39) dX7_play_158 (by decide) ?_
            refine J.loc [1, 0, 2] rfl ?_
            exact ih39 (1, ((rdI T t 0 0).2.1 + 1), (d + 1), (apL L kn qn tn), (inc3 kn c), um.1, (um.2.1.1, um.2.1.2.1, um.2.1.2.2.1, um.2.1.2.2.2.1, um.2.1.2.2.2.2.1, um.2.1.2.2.2.2.2.1, um.2.1.2.2.2.2.2.2.1, um.2.1.2.2.2.2.2.2.2), (um.2.2.1, um.2.2.2.1, um.2.2.2.2.1, um.2.2.2.2.2.1, um.2.2.2.2.2.2.1, um.2.2.2.2.2.2.2.1, um.2.2.2.2.2.2.2.2.1, um.2.2.2.2.2.2.2.2.2), ((kn : Int), (qn : Int), (tn : Int), u9.2.2.2)) (by show ((1 = 0 ∨ 1 = 1) ∧ (d + 1) ≤ 60 ∧ ((rdI T t 0 0).2.1 + 1) ≤ 61) ∧ okH (apL L kn qn tn) ∧ stM um.1 (apL L kn qn tn) G S M Nn (inc3 kn c) ∧ tabS (um.2.1.1, um.2.1.2.1, um.2.1.2.2.1, um.2.1.2.2.2.1, um.2.1.2.2.2.2.1, um.2.1.2.2.2.2.2.1, um.2.1.2.2.2.2.2.2.1, um.2.1.2.2.2.2.2.2.2) ∧ (1 = 1 → plF G S M T (60 - (d + 1)) ((rdI T t 0 0).2.1 + 1) (apL L kn qn tn) (inc3 kn c) (d + 1) = (plF G S M T 60 0 H c3 0) ∧ (T.length ≤ ((rdI T t 0 0).2.1 + 1) ∨ erF T (60 - (d + 1)) ((rdI T t 0 0).2.1 + 1) = -1)) ∧ (1 = 0 → ((apL L kn qn tn), (inc3 kn c), (d + 1)) = (plF G S M T 60 0 H c3 0)); first | exact ⟨⟨Or.inl rfl, id, by omega⟩, i2, i3, i4, fun z => absurd z (by decide), fun _ => hXe⟩ | exact ⟨⟨Or.inr rfl, by omega, by omega⟩, pos_ok i2 hyp, hm1, tabT_S hG.2 hS hM hm2, fun _ => ⟨n1, n2⟩, fun z => absurd z (by decide)⟩) (by show (if 1 = 0 then 0 else 201 - ((rdI T t 0 0).2.1 + 1)) < (if b = 0 then 0 else 201 - t); first | (rw [if_pos rfl, if_neg (by omega)]; omega) | (rw [if_neg (by decide), if_neg (by omega)]; omega))
        · refine j_aload_n F dX7_play_99 rfl 2 rfl ?_
          refine j_aload_n F dX7_play_100 rfl 2 rfl ?_
          refine j_getf F (ref := "CairnGameModel") (C := RX7) (T := TX7) (N := 27) (ci := 7) (index := 199) (v := .int (iI (qn : Int))) (fun w h => (List.mem_cons_of_mem _ (List.mem_append_right _ h))) 0 rfl rfl 24 (by decide) (List.mem_cons_of_mem _ (List.mem_append_left _ (List.mem_append_left _ (List.mem_of_getElem? (l := wsX7_play_r1) (i := 4) rfl)))) rfl rfl dX7_play_101 ?_
          refine j_aload_n F dX7_play_104 rfl 2 rfl ?_
          refine j_getf F (ref := "CairnGameModel") (C := RX7) (T := TX7) (N := 27) (ci := 7) (index := 190) (v := .int (iI (tn : Int))) (fun w h => (List.mem_cons_of_mem _ (List.mem_append_right _ h))) 0 rfl rfl 25 (by decide) (List.mem_cons_of_mem _ (List.mem_append_left _ (List.mem_append_left _ (List.mem_of_getElem? (l := wsX7_play_r1) (i := 5) rfl)))) rfl rfl dX7_play_105 ?_
          refine j_callV_I F (As := [.int (iI (qn : Int)), .int (iI (tn : Int))]) (wr := []) (st := []) (c_X7_whyNoSplit hfl D g z ad 0 (f, ur, (((rcH hs (H, G, S, M, Nn, c3)).length : Nat) : Int), cC.2.2.2.1, ((T.length : Nat) : Int)) w x ((((rdI T t 0 0).2.1 + 1 : Nat) : Int), (kn : Int), (qn : Int), (tn : Int), u9.2.2.2) L G S M Nn c (qn : Int) (tn : Int) i2 hG hS hM hN i3 (by unfold rg; omega) (by unfold rg; omega)) (idx := 139) (C := RX7) gX7_play_X7_whyNoSplit rfl rfl [0, 1, 2, 3, 4, 5, 6, 7, 8, 9, 10, 11, 12, 13, 14] [] rfl rfl (by decide) (by decide) (by decide) (ci := 7) (q0 := 0) rfl rfl (by decide) (by decide) (le_ble rfl) ⟨by decide, by decide⟩ dX7_play_108 ?_
          rintro r5 u5 h5
          subst h5
          refine J.wsEq (ws2 := moC g ad 0 (f, ur, (((rcH hs (H, G, S, M, Nn, c3)).length : Nat) : Int), cC.2.2.2.1, ((T.length : Nat) : Int)) w x ((((rdI T t 0 0).2.1 + 1 : Nat) : Int), (kn : Int), (qn : Int), (tn : Int), u9.2.2.2)) rfl ?_
          refine j_goto F (tgt := 126) dX7_play_111 (by decide) ?_
          refine j_if_ne F (tgt := 133) dX7_play_126 (by decide) (by have h3 := wsp_3 L S (qn : Int) (tn : Int); unfold rg; omega) (fun c126 => ?_) (fun c126 => ?_)
          · have hnp : ¬ posMv G S M L kn qn tn := by rw [show kn = 1 by omega, ← (why_sp (G := G) (S := S) (M := M) hS i2)]; omega
            have hXe := pl_endM p1 htl hd60 ekn eqn etn hnp
            refine j_iconst F dX7_play_133 ?_
            refine j_istore_n F (lv' := [(2, .int (iI 0)), (1, .int (iI (d : Int))), (0, .ref (ad 0))]) dX7_play_134 rfl (by decide) rfl ?_
            refine j_iload_n F dX7_play_135 rfl 0 rfl ?_
            refine j_if_eq F (tgt := 39) dX7_play_136 (by decide) (by unfold rg; omega) (fun c136 => ?_) (fun h9 => by exfalso; omega)
            refine J.loc [0, 1, 2] rfl ?_
            exact ih39 (0, ((rdI T t 0 0).2.1 + 1), d, L, c, f, (w.1, w.2.1, w.2.2.1, w.2.2.2.1, w.2.2.2.2.1, w.2.2.2.2.2.1, w.2.2.2.2.2.2.1, w.2.2.2.2.2.2.2), (x.1, x.2.1, x.2.2.1, x.2.2.2.1, x.2.2.2.2.1, x.2.2.2.2.2.1, x.2.2.2.2.2.2.1, x.2.2.2.2.2.2.2), ((kn : Int), (qn : Int), (tn : Int), u9.2.2.2)) (by show ((0 = 0 ∨ 0 = 1) ∧ d ≤ 60 ∧ ((rdI T t 0 0).2.1 + 1) ≤ 61) ∧ okH L ∧ stM f L G S M Nn c ∧ tabS (w.1, w.2.1, w.2.2.1, w.2.2.2.1, w.2.2.2.2.1, w.2.2.2.2.2.1, w.2.2.2.2.2.2.1, w.2.2.2.2.2.2.2) ∧ (0 = 1 → plF G S M T (60 - d) ((rdI T t 0 0).2.1 + 1) L c d = (plF G S M T 60 0 H c3 0) ∧ (T.length ≤ ((rdI T t 0 0).2.1 + 1) ∨ erF T (60 - d) ((rdI T t 0 0).2.1 + 1) = -1)) ∧ (0 = 0 → (L, c, d) = (plF G S M T 60 0 H c3 0)); first | exact ⟨⟨Or.inl rfl, id, by omega⟩, i2, i3, i4, fun z => absurd z (by decide), fun _ => hXe⟩ | exact ⟨⟨Or.inr rfl, by omega, by omega⟩, pos_ok i2 hyp, hm1, tabT_S hG.2 hS hM hm2, fun _ => ⟨n1, n2⟩, fun z => absurd z (by decide)⟩) (by show (if 0 = 0 then 0 else 201 - ((rdI T t 0 0).2.1 + 1)) < (if b = 0 then 0 else 201 - t); first | (rw [if_pos rfl, if_neg (by omega)]; omega) | (rw [if_neg (by decide), if_neg (by omega)]; omega))
          · have hyp : posMv G S M L kn qn tn := by rw [show kn = 1 by omega, ← (why_sp (G := G) (S := S) (M := M) hS i2)]; omega
            obtain ⟨n1, n2⟩ := pl_stepM p1 htl p3 ekn eqn etn hyp
            refine j_iconst F dX7_play_129 ?_
            refine j_goto F (tgt := 134) dX7_play_130 (by decide) ?_
            refine j_istore_n F (lv' := [(2, .int (iI 1)), (1, .int (iI (d : Int))), (0, .ref (ad 0))]) dX7_play_134 rfl (by decide) rfl ?_
            refine j_iload_n F dX7_play_135 rfl 0 rfl ?_
            refine j_if_eq F (tgt := 39) dX7_play_136 (by decide) (by unfold rg; omega) (fun h9 => by exfalso; omega) (fun c136 => ?_)
            refine j_aload_n F dX7_play_139 rfl 2 rfl ?_
            refine j_aload_n F dX7_play_140 rfl 2 rfl ?_
            refine j_getf F (ref := "CairnGameModel") (C := RX7) (T := TX7) (N := 27) (ci := 7) (index := 196) (v := .int (iI (kn : Int))) (fun w h => (List.mem_cons_of_mem _ (List.mem_append_right _ h))) 0 rfl rfl 23 (by decide) (List.mem_cons_of_mem _ (List.mem_append_left _ (List.mem_append_left _ (List.mem_of_getElem? (l := wsX7_play_r1) (i := 3) rfl)))) rfl rfl dX7_play_141 ?_
            refine j_aload_n F dX7_play_144 rfl 2 rfl ?_
            refine j_getf F (ref := "CairnGameModel") (C := RX7) (T := TX7) (N := 27) (ci := 7) (index := 199) (v := .int (iI (qn : Int))) (fun w h => (List.mem_cons_of_mem _ (List.mem_append_right _ h))) 0 rfl rfl 24 (by decide) (List.mem_cons_of_mem _ (List.mem_append_left _ (List.mem_append_left _ (List.mem_of_getElem? (l := wsX7_play_r1) (i := 4) rfl)))) rfl rfl dX7_play_145 ?_
            refine j_aload_n F dX7_play_148 rfl 2 rfl ?_
            refine j_getf F (ref := "CairnGameModel") (C := RX7) (T := TX7) (N := 27) (ci := 7) (index := 190) (v := .int (iI (tn : Int))) (fun w h => (List.mem_cons_of_mem _ (List.mem_append_right _ h))) 0 rfl rfl 25 (by decide) (List.mem_cons_of_mem _ (List.mem_append_left _ (List.mem_append_left _ (List.mem_of_getElem? (l := wsX7_play_r1) (i := 5) rfl)))) rfl rfl dX7_play_149 ?_
            refine j_callV_V F (As := [.int (iI (kn : Int)), .int (iI (qn : Int)), .int (iI (tn : Int))]) (wr := []) (st := []) (c_X7_makes hfl D g z ad 0 (f, ur, (((rcH hs (H, G, S, M, Nn, c3)).length : Nat) : Int), cC.2.2.2.1, ((T.length : Nat) : Int)) w x ((((rdI T t 0 0).2.1 + 1 : Nat) : Int), (kn : Int), (qn : Int), (tn : Int), u9.2.2.2) L G S M Nn c kn qn tn i4 i2 hG hS hM hN i3 hyp) (idx := 136) (C := RX7) gX7_play_X7_makes rfl rfl [0, 1, 2, 3, 4, 5, 6, 7, 8, 9, 10, 11, 12, 13, 14] [] rfl rfl (by decide) (by decide) (by decide) (ci := 7) (q0 := 0) rfl rfl (by decide) (by decide) (le_ble rfl) ⟨by decide, by decide⟩ dX7_play_152 ?_
            rintro um ⟨hm1, hm2⟩
            refine J.wsEq (ws2 := moC g ad 0 (um.1, ur, (((rcH hs (H, G, S, M, Nn, c3)).length : Nat) : Int), cC.2.2.2.1, ((T.length : Nat) : Int)) (um.2.1.1, um.2.1.2.1, um.2.1.2.2.1, um.2.1.2.2.2.1, um.2.1.2.2.2.2.1, um.2.1.2.2.2.2.2.1, um.2.1.2.2.2.2.2.2.1, um.2.1.2.2.2.2.2.2.2) (um.2.2.1, um.2.2.2.1, um.2.2.2.2.1, um.2.2.2.2.2.1, um.2.2.2.2.2.2.1, um.2.2.2.2.2.2.2.1, um.2.2.2.2.2.2.2.2.1, um.2.2.2.2.2.2.2.2.2) ((((rdI T t 0 0).2.1 + 1 : Nat) : Int), (kn : Int), (qn : Int), (tn : Int), u9.2.2.2)) rfl ?_
            refine j_iinc F (lv' := [(1, .int (iI ((d : Int) + 1))), (2, .int (iI 1)), (0, .ref (ad 0))]) dX7_play_155 1 rfl (by decide) rfl ?_
            refine j_goto F (tgt := 39) dX7_play_158 (by decide) ?_
            refine J.loc [1, 0, 2] rfl ?_
            exact ih39 (1, ((rdI T t 0 0).2.1 + 1), (d + 1), (apL L kn qn tn), (inc3 kn c), um.1, (um.2.1.1, um.2.1.2.1, um.2.1.2.2.1, um.2.1.2.2.2.1, um.2.1.2.2.2.2.1, um.2.1.2.2.2.2.2.1, um.2.1.2.2.2.2.2.2.1, um.2.1.2.2.2.2.2.2.2), (um.2.2.1, um.2.2.2.1, um.2.2.2.2.1, um.2.2.2.2.2.1, um.2.2.2.2.2.2.1, um.2.2.2.2.2.2.2.1, um.2.2.2.2.2.2.2.2.1, um.2.2.2.2.2.2.2.2.2), ((kn : Int), (qn : Int), (tn : Int), u9.2.2.2)) (by show ((1 = 0 ∨ 1 = 1) ∧ (d + 1) ≤ 60 ∧ ((rdI T t 0 0).2.1 + 1) ≤ 61) ∧ okH (apL L kn qn tn) ∧ stM um.1 (apL L kn qn tn) G S M Nn (inc3 kn c) ∧ tabS (um.2.1.1, um.2.1.2.1, um.2.1.2.2.1, um.2.1.2.2.2.1, um.2.1.2.2.2.2.1, um.2.1.2.2.2.2.2.1, um.2.1.2.2.2.2.2.2.1, um.2.1.2.2.2.2.2.2.2) ∧ (1 = 1 → plF G S M T (60 - (d + 1)) ((rdI T t 0 0).2.1 + 1) (apL L kn qn tn) (inc3 kn c) (d + 1) = (plF G S M T 60 0 H c3 0) ∧ (T.length ≤ ((rdI T t 0 0).2.1 + 1) ∨ erF T (60 - (d + 1)) ((rdI T t 0 0).2.1 + 1) = -1)) ∧ (1 = 0 → ((apL L kn qn tn), (inc3 kn c), (d + 1)) = (plF G S M T 60 0 H c3 0)); first | exact ⟨⟨Or.inl rfl, id, by omega⟩, i2, i3, i4, fun z => absurd z (by decide), fun _ => hXe⟩ | exact ⟨⟨Or.inr rfl, by omega, by omega⟩, pos_ok i2 hyp, hm1, tabT_S hG.2 hS hM hm2, fun _ => ⟨n1, n2⟩, fun z => absurd z (by decide)⟩) (by show (if 1 = 0 then 0 else 201 - ((rdI T t 0 0).2.1 + 1)) < (if b = 0 then 0 else 201 - t); first | (rw [if_pos rfl, if_neg (by omega)]; omega) | (rw [if_neg (by decide), if_neg (by omega)]; omega))
      · refine j_aload_n F dX7_play_76 rfl 2 rfl ?_
        refine j_aload_n F dX7_play_77 rfl 2 rfl ?_
        refine j_getf F (ref := "CairnGameModel") (C := RX7) (T := TX7) (N := 27) (ci := 7) (index := 199) (v := .int (iI (qn : Int))) (fun w h => (List.mem_cons_of_mem _ (List.mem_append_right _ h))) 0 rfl rfl 24 (by decide) (List.mem_cons_of_mem _ (List.mem_append_left _ (List.mem_append_left _ (List.mem_of_getElem? (l := wsX7_play_r1) (i := 4) rfl)))) rfl rfl dX7_play_78 ?_
        refine j_aload_n F dX7_play_81 rfl 2 rfl ?_
        refine j_getf F (ref := "CairnGameModel") (C := RX7) (T := TX7) (N := 27) (ci := 7) (index := 190) (v := .int (iI (tn : Int))) (fun w h => (List.mem_cons_of_mem _ (List.mem_append_right _ h))) 0 rfl rfl 25 (by decide) (List.mem_cons_of_mem _ (List.mem_append_left _ (List.mem_append_left _ (List.mem_of_getElem? (l := wsX7_play_r1) (i := 5) rfl)))) rfl rfl dX7_play_82 ?_
        refine j_callV_I F (As := [.int (iI (qn : Int)), .int (iI (tn : Int))]) (wr := []) (st := []) (c_X7_whyNoTake hfl D g z ad 0 (f, ur, (((rcH hs (H, G, S, M, Nn, c3)).length : Nat) : Int), cC.2.2.2.1, ((T.length : Nat) : Int)) w x ((((rdI T t 0 0).2.1 + 1 : Nat) : Int), (kn : Int), (qn : Int), (tn : Int), u9.2.2.2) L G S M Nn c (qn : Int) (tn : Int) i2 hG hS hM hN i3 (by unfold rg; omega) (by unfold rg; omega)) (idx := 132) (C := RX7) gX7_play_X7_whyNoTake rfl rfl [0, 1, 2, 3, 4, 5, 6, 7, 8, 9, 10, 11, 12, 13, 14] [] rfl rfl (by decide) (by decide) (by decide) (ci := 7) (q0 := 0) rfl rfl (by decide) (by decide) (le_ble rfl) ⟨by decide, by decide⟩ dX7_play_85 ?_
        rintro r5 u5 h5
        subst h5
        refine J.wsEq (ws2 := moC g ad 0 (f, ur, (((rcH hs (H, G, S, M, Nn, c3)).length : Nat) : Int), cC.2.2.2.1, ((T.length : Nat) : Int)) w x ((((rdI T t 0 0).2.1 + 1 : Nat) : Int), (kn : Int), (qn : Int), (tn : Int), u9.2.2.2)) rfl ?_
        refine j_goto F (tgt := 126) dX7_play_88 (by decide) ?_
        refine j_if_ne F (tgt := 133) dX7_play_126 (by decide) (by have h3 := wtk_3 L G (qn : Int) (tn : Int); unfold rg; omega) (fun c126 => ?_) (fun c126 => ?_)
        · have hnp : ¬ posMv G S M L kn qn tn := by rw [show kn = 0 by omega, ← (why_tk (G := G) (S := S) (M := M) hG.2)]; omega
          have hXe := pl_endM p1 htl hd60 ekn eqn etn hnp
          refine j_iconst F dX7_play_133 ?_
          refine j_istore_n F (lv' := [(2, .int (iI 0)), (1, .int (iI (d : Int))), (0, .ref (ad 0))]) dX7_play_134 rfl (by decide) rfl ?_
          refine j_iload_n F dX7_play_135 rfl 0 rfl ?_
          refine j_if_eq F (tgt := 39) dX7_play_136 (by decide) (by unfold rg; omega) (fun c136 => ?_) (fun h9 => by exfalso; omega)
          refine J.loc [0, 1, 2] rfl ?_
          exact ih39 (0, ((rdI T t 0 0).2.1 + 1), d, L, c, f, (w.1, w.2.1, w.2.2.1, w.2.2.2.1, w.2.2.2.2.1, w.2.2.2.2.2.1, w.2.2.2.2.2.2.1, w.2.2.2.2.2.2.2), (x.1, x.2.1, x.2.2.1, x.2.2.2.1, x.2.2.2.2.1, x.2.2.2.2.2.1, x.2.2.2.2.2.2.1, x.2.2.2.2.2.2.2), ((kn : Int), (qn : Int), (tn : Int), u9.2.2.2)) (by show ((0 = 0 ∨ 0 = 1) ∧ d ≤ 60 ∧ ((rdI T t 0 0).2.1 + 1) ≤ 61) ∧ okH L ∧ stM f L G S M Nn c ∧ tabS (w.1, w.2.1, w.2.2.1, w.2.2.2.1, w.2.2.2.2.1, w.2.2.2.2.2.1, w.2.2.2.2.2.2.1, w.2.2.2.2.2.2.2) ∧ (0 = 1 → plF G S M T (60 - d) ((rdI T t 0 0).2.1 + 1) L c d = (plF G S M T 60 0 H c3 0) ∧ (T.length ≤ ((rdI T t 0 0).2.1 + 1) ∨ erF T (60 - d) ((rdI T t 0 0).2.1 + 1) = -1)) ∧ (0 = 0 → (L, c, d) = (plF G S M T 60 0 H c3 0)); first | exact ⟨⟨Or.inl rfl, id, by omega⟩, i2, i3, i4, fun z => absurd z (by decide), fun _ => hXe⟩ | exact ⟨⟨Or.inr rfl, by omega, by omega⟩, pos_ok i2 hyp, hm1, tabT_S hG.2 hS hM hm2, fun _ => ⟨n1, n2⟩, fun z => absurd z (by decide)⟩) (by show (if 0 = 0 then 0 else 201 - ((rdI T t 0 0).2.1 + 1)) < (if b = 0 then 0 else 201 - t); first | (rw [if_pos rfl, if_neg (by omega)]; omega) | (rw [if_neg (by decide), if_neg (by omega)]; omega))
        · have hyp : posMv G S M L kn qn tn := by rw [show kn = 0 by omega, ← (why_tk (G := G) (S := S) (M := M) hG.2)]; omega
          obtain ⟨n1, n2⟩ := pl_stepM p1 htl p3 ekn eqn etn hyp
          refine j_iconst F dX7_play_129 ?_
          refine j_goto F (tgt := 134) dX7_play_130 (by decide) ?_
          refine j_istore_n F (lv' := [(2, .int (iI 1)), (1, .int (iI (d : Int))), (0, .ref (ad 0))]) dX7_play_134 rfl (by decide) rfl ?_
          refine j_iload_n F dX7_play_135 rfl 0 rfl ?_
          refine j_if_eq F (tgt := 39) dX7_play_136 (by decide) (by unfold rg; omega) (fun h9 => by exfalso; omega) (fun c136 => ?_)
          refine j_aload_n F dX7_play_139 rfl 2 rfl ?_
          refine j_aload_n F dX7_play_140 rfl 2 rfl ?_
          refine j_getf F (ref := "CairnGameModel") (C := RX7) (T := TX7) (N := 27) (ci := 7) (index := 196) (v := .int (iI (kn : Int))) (fun w h => (List.mem_cons_of_mem _ (List.mem_append_right _ h))) 0 rfl rfl 23 (by decide) (List.mem_cons_of_mem _ (List.mem_append_left _ (List.mem_append_left _ (List.mem_of_getElem? (l := wsX7_play_r1) (i := 3) rfl)))) rfl rfl dX7_play_141 ?_
          refine j_aload_n F dX7_play_144 rfl 2 rfl ?_
          refine j_getf F (ref := "CairnGameModel") (C := RX7) (T := TX7) (N := 27) (ci := 7) (index := 199) (v := .int (iI (qn : Int))) (fun w h => (List.mem_cons_of_mem _ (List.mem_append_right _ h))) 0 rfl rfl 24 (by decide) (List.mem_cons_of_mem _ (List.mem_append_left _ (List.mem_append_left _ (List.mem_of_getElem? (l := wsX7_play_r1) (i := 4) rfl)))) rfl rfl dX7_play_145 ?_
          refine j_aload_n F dX7_play_148 rfl 2 rfl ?_
          refine j_getf F (ref := "CairnGameModel") (C := RX7) (T := TX7) (N := 27) (ci := 7) (index := 190) (v := .int (iI (tn : Int))) (fun w h => (List.mem_cons_of_mem _ (List.mem_append_right _ h))) 0 rfl rfl 25 (by decide) (List.mem_cons_of_mem _ (List.mem_append_left _ (List.mem_append_left _ (List.mem_of_getElem? (l := wsX7_play_r1) (i := 5) rfl)))) rfl rfl dX7_play_149 ?_
          refine j_callV_V F (As := [.int (iI (kn : Int)), .int (iI (qn : Int)), .int (iI (tn : Int))]) (wr := []) (st := []) (c_X7_makes hfl D g z ad 0 (f, ur, (((rcH hs (H, G, S, M, Nn, c3)).length : Nat) : Int), cC.2.2.2.1, ((T.length : Nat) : Int)) w x ((((rdI T t 0 0).2.1 + 1 : Nat) : Int), (kn : Int), (qn : Int), (tn : Int), u9.2.2.2) L G S M Nn c kn qn tn i4 i2 hG hS hM hN i3 hyp) (idx := 136) (C := RX7) gX7_play_X7_makes rfl rfl [0, 1, 2, 3, 4, 5, 6, 7, 8, 9, 10, 11, 12, 13, 14] [] rfl rfl (by decide) (by decide) (by decide) (ci := 7) (q0 := 0) rfl rfl (by decide) (by decide) (le_ble rfl) ⟨by decide, by decide⟩ dX7_play_152 ?_
          rintro um ⟨hm1, hm2⟩
          refine J.wsEq (ws2 := moC g ad 0 (um.1, ur, (((rcH hs (H, G, S, M, Nn, c3)).length : Nat) : Int), cC.2.2.2.1, ((T.length : Nat) : Int)) (um.2.1.1, um.2.1.2.1, um.2.1.2.2.1, um.2.1.2.2.2.1, um.2.1.2.2.2.2.1, um.2.1.2.2.2.2.2.1, um.2.1.2.2.2.2.2.2.1, um.2.1.2.2.2.2.2.2.2) (um.2.2.1, um.2.2.2.1, um.2.2.2.2.1, um.2.2.2.2.2.1, um.2.2.2.2.2.2.1, um.2.2.2.2.2.2.2.1, um.2.2.2.2.2.2.2.2.1, um.2.2.2.2.2.2.2.2.2) ((((rdI T t 0 0).2.1 + 1 : Nat) : Int), (kn : Int), (qn : Int), (tn : Int), u9.2.2.2)) rfl ?_
          refine j_iinc F (lv' := [(1, .int (iI ((d : Int) + 1))), (2, .int (iI 1)), (0, .ref (ad 0))]) dX7_play_155 1 rfl (by decide) rfl ?_
          refine j_goto F (tgt := 39) dX7_play_158 (by decide) ?_
          refine J.loc [1, 0, 2] rfl ?_
          exact ih39 (1, ((rdI T t 0 0).2.1 + 1), (d + 1), (apL L kn qn tn), (inc3 kn c), um.1, (um.2.1.1, um.2.1.2.1, um.2.1.2.2.1, um.2.1.2.2.2.1, um.2.1.2.2.2.2.1, um.2.1.2.2.2.2.2.1, um.2.1.2.2.2.2.2.2.1, um.2.1.2.2.2.2.2.2.2), (um.2.2.1, um.2.2.2.1, um.2.2.2.2.1, um.2.2.2.2.2.1, um.2.2.2.2.2.2.1, um.2.2.2.2.2.2.2.1, um.2.2.2.2.2.2.2.2.1, um.2.2.2.2.2.2.2.2.2), ((kn : Int), (qn : Int), (tn : Int), u9.2.2.2)) (by show ((1 = 0 ∨ 1 = 1) ∧ (d + 1) ≤ 60 ∧ ((rdI T t 0 0).2.1 + 1) ≤ 61) ∧ okH (apL L kn qn tn) ∧ stM um.1 (apL L kn qn tn) G S M Nn (inc3 kn c) ∧ tabS (um.2.1.1, um.2.1.2.1, um.2.1.2.2.1, um.2.1.2.2.2.1, um.2.1.2.2.2.2.1, um.2.1.2.2.2.2.2.1, um.2.1.2.2.2.2.2.2.1, um.2.1.2.2.2.2.2.2.2) ∧ (1 = 1 → plF G S M T (60 - (d + 1)) ((rdI T t 0 0).2.1 + 1) (apL L kn qn tn) (inc3 kn c) (d + 1) = (plF G S M T 60 0 H c3 0) ∧ (T.length ≤ ((rdI T t 0 0).2.1 + 1) ∨ erF T (60 - (d + 1)) ((rdI T t 0 0).2.1 + 1) = -1)) ∧ (1 = 0 → ((apL L kn qn tn), (inc3 kn c), (d + 1)) = (plF G S M T 60 0 H c3 0)); first | exact ⟨⟨Or.inl rfl, id, by omega⟩, i2, i3, i4, fun z => absurd z (by decide), fun _ => hXe⟩ | exact ⟨⟨Or.inr rfl, by omega, by omega⟩, pos_ok i2 hyp, hm1, tabT_S hG.2 hS hM hm2, fun _ => ⟨n1, n2⟩, fun z => absurd z (by decide)⟩) (by show (if 1 = 0 then 0 else 201 - ((rdI T t 0 0).2.1 + 1)) < (if b = 0 then 0 else 201 - t); first | (rw [if_pos rfl, if_neg (by omega)]; omega) | (rw [if_neg (by decide), if_neg (by omega)]; omega))

set_option maxHeartbeats 1000000 in
set_option maxRecDepth 100000 in
theorem c_X7_play_t {l : Launch} (hfl : l.flags = flags0) (D : va_G) (g : GT) (z : ZT) (ad : Nat → Nat) (th : Int) (cC : CT) (cT : TT) (cL : LT) (cP : PT) (H : List Nat) (G S M Nn : Nat) (c3 : C3) (hs : List GS) (T : List Nat) (hH : okH H) (hG : 1 ≤ G ∧ G ≤ 5) (hS : S ≤ 1) (hM : M ≤ 1) (hN : Nn ≤ 1) (hst : stM cC.1 H G S M Nn c3) (hok : ∀ x ∈ hs, okG x) (hh6 : hs.length ≤ 6) (hhs : hisM cC.2.1 hs) (hT : txOK T) (htr : rep cC.2.2.2.1 T) (her : ¬ erT T = -1) : CI l yX7_play wsX7_play 8 187 0 D g z [.ref (ad 0)] (moC g ad th (cC.1, cC.2.1, ((hs.length : Nat) : Int), cC.2.2.2.1, ((T.length : Nat) : Int)) cT cL cP) (fun (r9 : Int32) (u9 : PT) => True) (fun (u9 : PT) => moC g ad 1 (cC.1, cC.2.1, ((hs.length : Nat) : Int), cC.2.2.2.1, ((T.length : Nat) : Int)) cT cL u9) 0 0 := by
  refine CI_of hfl (own := RX7) ⟨7, 0, 0, 165⟩ 8 187 0 (by decide +kernel) rfl rfl ⟨by decide, by decide, by decide +kernel⟩ ⟨by decide, by decide⟩ (le_ble rfl) (fun _ _ _ => rfl) ?_
  intro p e s m below meth c A Q F ret
  change J p l e _ s m _ below meth c A D _ Q 0 0 (moC g ad th (cC.1, cC.2.1, ((hs.length : Nat) : Int), cC.2.2.2.1, ((T.length : Nat) : Int)) cT cL cP) [(0, .ref (ad 0))] [] 0
  refine j_aload_n F dX7_play_0 rfl 0 rfl ?_
  refine j_aload_n F dX7_play_1 rfl 0 rfl ?_
  refine j_callV_I F (As := []) (wr := []) (st := [.ref (ad 0)]) (c_X7_findError hfl D g z ad th (cC.1, cC.2.1, ((hs.length : Nat) : Int), cC.2.2.2.1, ((T.length : Nat) : Int)) cT cL cP T hT htr) (idx := 211) (C := RX7) gX7_play_X7_findError rfl rfl [0, 1, 2, 3, 4, 5, 6, 7, 8, 9, 10, 11, 12, 13, 14] [] rfl rfl (by decide) (by decide) (by decide) (ci := 7) (q0 := 0) rfl rfl (by decide) (by decide) (le_ble rfl) ⟨by decide, by decide⟩ dX7_play_2 ?_
  rintro r9 u9 h9
  subst h9
  refine J.wsEq (ws2 := moC g ad th (cC.1, cC.2.1, ((hs.length : Nat) : Int), cC.2.2.2.1, ((T.length : Nat) : Int)) cT cL u9) rfl ?_
  refine j_iconst F dX7_play_5 ?_
  refine j_icmp_ne F (tgt := 13) dX7_play_6 (by decide) ⟨(by have := erT_r hT; unfold rg; omega), (by unfold rg; omega)⟩ (fun c6 => ?_) (fun h9 => by exfalso; omega)
  refine j_iconst F dX7_play_13 ?_
  refine j_putf F (ref := "CairnGameModel") (C := RX7) (T := TX7) (N := 27) (ci := 7) (index := 60) (ty := .int) (ws' := moC g ad 1 (cC.1, cC.2.1, ((hs.length : Nat) : Int), cC.2.2.2.1, ((T.length : Nat) : Int)) cT cL u9) (fun w h => (List.mem_cons_of_mem _ (List.mem_append_right _ h))) tyX7 tyX7_ok nmX7 0 rfl rfl 0 (by decide) (List.mem_cons_of_mem _ (List.mem_append_left _ (List.mem_append_left _ (List.mem_of_getElem? (l := wsX7_play_r1) (i := 0) rfl)))) rfl rfl rfl rfl rfl (lt_ble rfl) rfl dX7_play_14 ?_
  refine j_aload_n F dX7_play_17 rfl 0 rfl ?_
  refine j_getf F (ref := "CairnGameModel") (C := RX7) (T := TX7) (N := 27) (ci := 7) (index := 60) (v := .int (iI 1)) (fun w h => (List.mem_cons_of_mem _ (List.mem_append_right _ h))) 0 rfl rfl 0 (by decide) (List.mem_cons_of_mem _ (List.mem_append_left _ (List.mem_append_left _ (List.mem_of_getElem? (l := wsX7_play_r1) (i := 0) rfl)))) rfl rfl dX7_play_18 ?_
  refine j_if_le F (tgt := 26) dX7_play_21 (by decide) (by unfold rg; omega) (fun h9 => by exfalso; omega) (fun c21 => ?_)
  refine j_iconst F dX7_play_24 ?_
  exact ret _ u9 0 0 _ _ dX7_play_25 (by decide) (by decide) trivial

theorem hisM_take {h : NF} {hs : List GS} (H : hisM h hs) (n : Nat) : hisM h (hs.take n) := by
  intro i hi
  rw [List.length_take] at hi
  have e : (hs.take n).getD i g0 = hs.getD i g0 := by
    rw [List.getD_eq_getElem?_getD, List.getD_eq_getElem?_getD, List.getElem?_take, if_pos (by omega)]
  rw [e]
  exact H i (by omega)

set_option maxHeartbeats 1000000 in
set_option maxRecDepth 100000 in
theorem c_X7_undo {l : Launch} (hfl : l.flags = flags0) (D : va_G) (g : GT) (z : ZT) (ad : Nat → Nat) (th : Int) (cC : CT) (cT : TT) (cL : LT) (cP : PT) (hs : List GS) (hok : ∀ x ∈ hs, okG x) (hh6 : hs.length ≤ 6) (hhs : hisM cC.2.1 hs) (h1 : 1 ≤ hs.length) : CI l yX7_undo wsX7_undo 1 21 0 D g z [.ref (ad 0)] (moC g ad th (cC.1, cC.2.1, ((hs.length : Nat) : Int), cC.2.2.2.1, cC.2.2.2.2) cT cL cP) (fun (r9 : Int32) (u9 : NF) => (stMg u9 (hs.getD (hs.length - 1) g0) ∧ hisM cC.2.1 (hs.take (hs.length - 1))) ∧ r9 = iI ((hs.length - 1 : Nat) : Int)) (fun (u9 : NF) => moC g ad 0 (u9, cC.2.1, ((hs.length - 1 : Nat) : Int), cC.2.2.2.1, cC.2.2.2.2) cT cL cP) 0 0 := by
  refine CI_of hfl (own := RX7) ⟨0, 0, 0, 0⟩ 1 21 0 (by decide +kernel) rfl rfl ⟨by decide, by decide, by decide +kernel⟩ ⟨by decide, by decide⟩ (le_ble rfl) (fun _ _ _ => rfl) ?_
  intro p e s m below meth c A Q F ret
  change J p l e _ s m _ below meth c A D _ Q 0 0 (moC g ad th (cC.1, cC.2.1, ((hs.length : Nat) : Int), cC.2.2.2.1, cC.2.2.2.2) cT cL cP) [(0, .ref (ad 0))] [] 0
  refine j_aload_n F dX7_undo_0 rfl 0 rfl ?_
  refine j_aload_n F dX7_undo_1 rfl 0 rfl ?_
  refine j_getf F (ref := "CairnGameModel") (C := RX7) (T := TX7) (N := 27) (ci := 7) (index := 63) (v := .int (iI ((hs.length : Nat) : Int))) (fun w h => (List.mem_cons_of_mem _ (List.mem_append_right _ h))) 0 rfl rfl 3 (by decide) (List.mem_cons_of_mem _ (List.mem_append_left _ (List.mem_of_getElem? (i := 0) rfl))) rfl rfl dX7_undo_2 ?_
  refine j_if_ne F (tgt := 12) dX7_undo_5 (by decide) (by unfold rg; omega) (fun c5 => ?_) (fun h9 => by exfalso; omega)
  refine j_iconst F dX7_undo_12 ?_
  refine j_putf F (ref := "CairnGameModel") (C := RX7) (T := TX7) (N := 27) (ci := 7) (index := 60) (ty := .int) (ws' := moC g ad 0 (cC.1, cC.2.1, ((hs.length : Nat) : Int), cC.2.2.2.1, cC.2.2.2.2) cT cL cP) (fun w h => (List.mem_cons_of_mem _ (List.mem_append_right _ h))) tyX7 tyX7_ok nmX7 0 rfl rfl 0 (by decide) (List.mem_cons_of_mem _ (List.mem_append_left _ (List.mem_of_getElem? (i := 1) rfl))) rfl rfl rfl rfl rfl (lt_ble rfl) rfl dX7_undo_13 ?_
  refine j_aload_n F dX7_undo_16 rfl 0 rfl ?_
  refine j_getf F (ref := "CairnGameModel") (C := RX7) (T := TX7) (N := 27) (ci := 7) (index := 60) (v := .int (iI 0)) (fun w h => (List.mem_cons_of_mem _ (List.mem_append_right _ h))) 0 rfl rfl 0 (by decide) (List.mem_cons_of_mem _ (List.mem_append_left _ (List.mem_of_getElem? (i := 1) rfl))) rfl rfl dX7_undo_17 ?_
  refine j_if_le F (tgt := 25) dX7_undo_20 (by decide) (by unfold rg; omega) (fun c20 => ?_) (fun h9 => by exfalso; omega)
  refine j_aload_n F dX7_undo_25 rfl 0 rfl ?_
  refine j_dup F dX7_undo_26 rfl ?_
  refine j_getf F (ref := "CairnGameModel") (C := RX7) (T := TX7) (N := 27) (ci := 7) (index := 63) (v := .int (iI ((hs.length : Nat) : Int))) (fun w h => (List.mem_cons_of_mem _ (List.mem_append_right _ h))) 0 rfl rfl 3 (by decide) (List.mem_cons_of_mem _ (List.mem_append_left _ (List.mem_of_getElem? (i := 0) rfl))) rfl rfl dX7_undo_27 ?_
  refine j_iconst F dX7_undo_30 ?_
  refine j_isub F dX7_undo_31 ?_
  refine J.top (congrArg iI (show (((hs.length : Nat) : Int) - 1) = (((hs.length - 1) : Nat) : Int) from by omega)) ?_
  refine j_putf F (ref := "CairnGameModel") (C := RX7) (T := TX7) (N := 27) (ci := 7) (index := 63) (ty := .int) (ws' := moC g ad 0 (cC.1, cC.2.1, (((hs.length - 1) : Nat) : Int), cC.2.2.2.1, cC.2.2.2.2) cT cL cP) (fun w h => (List.mem_cons_of_mem _ (List.mem_append_right _ h))) tyX7 tyX7_ok nmX7 0 rfl rfl 3 (by decide) (List.mem_cons_of_mem _ (List.mem_append_left _ (List.mem_of_getElem? (i := 0) rfl))) rfl rfl rfl rfl rfl (lt_ble rfl) rfl dX7_undo_32 ?_
  refine j_iconst F dX7_undo_35 ?_
  refine j_istore_n F (lv' := [(1, .int (iI 0)), (0, .ref (ad 0))]) dX7_undo_36 rfl (by decide) rfl ?_
  refine J.loc [0, 1] rfl ?_
  refine J_loop (σ := Nat × NF) (fun x9 : Nat × NF => match x9 with | (k, f1) => k ≤ 20 ∧ ∀ j, j < k → f1 j = cC.2.1 (20 * (hs.length - 1) + j)) (fun x9 : Nat × NF => match x9 with | (k, f1) => 20 - k) (fun x9 : Nat × NF => match x9 with | (k, f1) => moC g ad 0 (f1, cC.2.1, ((hs.length - 1 : Nat) : Int), cC.2.2.2.1, cC.2.2.2.2) cT cL cP) (fun x9 : Nat × NF => match x9 with | (k, f1) => [(1, .int (iI (k : Int))), (0, .ref (ad 0))]) (0, cC.1) (by show 0 ≤ 20 ∧ ∀ j, j < 0 → cC.1 j = cC.2.1 (20 * (hs.length - 1) + j); exact ⟨Nat.zero_le _, fun j hj => absurd hj (Nat.not_lt_zero j)⟩) ?_
  rintro ⟨k, f1⟩ hI ih37
  have hI : k ≤ 20 ∧ ∀ j, j < k → f1 j = cC.2.1 (20 * (hs.length - 1) + j) := hI
  obtain ⟨i1, i2⟩ := hI
  refine j_iload_n F dX7_undo_37 rfl 0 rfl ?_
  refine j_bipush F dX7_undo_38 (by decide) ?_
  refine j_icmp_ge F (tgt := 69) dX7_undo_40 (by decide) ⟨(by unfold rg; omega), (by unfold rg; omega)⟩ (fun c40 => ?_) (fun c40 => ?_)
  · refine j_aload_n F dX7_undo_69 rfl 1 rfl ?_
    refine j_getf F (ref := "CairnGameModel") (C := RX7) (T := TX7) (N := 27) (ci := 7) (index := 63) (v := .int (iI ((hs.length - 1 : Nat) : Int))) (fun w h => (List.mem_cons_of_mem _ (List.mem_append_right _ h))) 0 rfl rfl 3 (by decide) (List.mem_cons_of_mem _ (List.mem_append_left _ (List.mem_of_getElem? (i := 0) rfl))) rfl rfl dX7_undo_70 ?_
    exact ret _ f1 0 0 _ _ dX7_undo_73 (by decide) (by decide) (⟨⟨stM_ext (hhs (hs.length - 1) (by omega)) (okH_len (hok _ (getD_mg (hs := hs) (i := hs.length - 1) (by omega))).1) (fun q hq => i2 q (by omega)), hisM_take hhs _⟩, rfl⟩)
  · refine j_aload_n F dX7_undo_43 rfl 1 rfl ?_
    refine j_getf F (ref := "CairnGameModel") (C := RX7) (T := TX7) (N := 27) (ci := 7) (index := 7) (v := .ref (ad 1)) (fun w h => (List.mem_cons_of_mem _ (List.mem_append_right _ h))) 0 rfl rfl 1 (by decide) (List.mem_cons_of_mem _ (List.mem_append_left _ (List.mem_of_getElem? (i := 2) rfl))) rfl rfl dX7_undo_44 ?_
    refine j_iload_n F dX7_undo_47 rfl 0 rfl ?_
    refine j_aload_n F dX7_undo_48 rfl 1 rfl ?_
    refine j_getf F (ref := "CairnGameModel") (C := RX7) (T := TX7) (N := 27) (ci := 7) (index := 13) (v := .ref (ad 2)) (fun w h => (List.mem_cons_of_mem _ (List.mem_append_right _ h))) 0 rfl rfl 2 (by decide) (List.mem_cons_of_mem _ (List.mem_append_left _ (List.mem_of_getElem? (i := 3) rfl))) rfl rfl dX7_undo_49 ?_
    refine j_aload_n F dX7_undo_52 rfl 1 rfl ?_
    refine j_getf F (ref := "CairnGameModel") (C := RX7) (T := TX7) (N := 27) (ci := 7) (index := 63) (v := .int (iI ((hs.length - 1 : Nat) : Int))) (fun w h => (List.mem_cons_of_mem _ (List.mem_append_right _ h))) 0 rfl rfl 3 (by decide) (List.mem_cons_of_mem _ (List.mem_append_left _ (List.mem_of_getElem? (i := 0) rfl))) rfl rfl dX7_undo_53 ?_
    refine j_bipush F dX7_undo_56 (by decide) ?_
    refine j_imul F dX7_undo_58 ?_
    refine j_iload_n F dX7_undo_59 rfl 0 rfl ?_
    refine j_iadd F dX7_undo_60 ?_
    refine j_iald F 2 (n := 120) (f := cC.2.1) rfl ((hs.length - 1) * 20 + k) (by omega) (by omega) (by decide) dX7_undo_61 ?_
    refine j_iast F (ws' := moC g ad 0 (nup f1 k (cC.2.1 ((hs.length - 1) * 20 + k)), cC.2.1, ((hs.length - 1 : Nat) : Int), cC.2.2.2.1, cC.2.2.2.2) cT cL cP) 1 (n := 20) (f := f1) rfl k (rfl) (by omega) (by decide) rfl dX7_undo_62 ?_
    refine j_iinc F (lv' := [(1, .int (iI ((k : Int) + 1))), (0, .ref (ad 0))]) dX7_undo_63 0 rfl (by decide) rfl ?_
    refine j_goto F (tgt := 37) dX7_undo_66 (by decide) ?_
    refine J.loc [0, 1] rfl ?_
    exact ih37 ((k + 1), nup f1 k (cC.2.1 ((hs.length - 1) * 20 + k))) (by show (k + 1) ≤ 20 ∧ ∀ j, j < (k + 1) → (nup f1 k (cC.2.1 ((hs.length - 1) * 20 + k))) j = cC.2.1 (20 * (hs.length - 1) + j); exact ⟨by omega, fun j hj => (by by_cases w : j = k; (rw [w, show 20 * (hs.length - 1) + k = (hs.length - 1) * 20 + k by omega, nup_s]); rw [nup_n _ _ w]; exact i2 j (by omega))⟩) (by show 20 - (k + 1) < 20 - k; omega)

set_option maxHeartbeats 1000000 in
set_option maxRecDepth 100000 in
theorem c_X7_undo_t {l : Launch} (hfl : l.flags = flags0) (D : va_G) (g : GT) (z : ZT) (ad : Nat → Nat) (th : Int) (cC : CT) (cT : TT) (cL : LT) (cP : PT) : CI l yX7_undo wsX7_undo 1 21 0 D g z [.ref (ad 0)] (moC g ad th (cC.1, cC.2.1, 0, cC.2.2.2.1, cC.2.2.2.2) cT cL cP) (fun (r9 : Int32) (u9 : Unit) => True) (fun (u9 : Unit) => moC g ad 1 (cC.1, cC.2.1, 0, cC.2.2.2.1, cC.2.2.2.2) cT cL cP) 0 0 := by
  refine CI_of hfl (own := RX7) ⟨0, 0, 0, 0⟩ 1 21 0 (by decide +kernel) rfl rfl ⟨by decide, by decide, by decide +kernel⟩ ⟨by decide, by decide⟩ (le_ble rfl) (fun _ _ _ => rfl) ?_
  intro p e s m below meth c A Q F ret
  change J p l e _ s m _ below meth c A D _ Q 0 0 (moC g ad th (cC.1, cC.2.1, 0, cC.2.2.2.1, cC.2.2.2.2) cT cL cP) [(0, .ref (ad 0))] [] 0
  refine j_aload_n F dX7_undo_0 rfl 0 rfl ?_
  refine j_aload_n F dX7_undo_1 rfl 0 rfl ?_
  refine j_getf F (ref := "CairnGameModel") (C := RX7) (T := TX7) (N := 27) (ci := 7) (index := 63) (v := .int (iI 0)) (fun w h => (List.mem_cons_of_mem _ (List.mem_append_right _ h))) 0 rfl rfl 3 (by decide) (List.mem_cons_of_mem _ (List.mem_append_left _ (List.mem_of_getElem? (i := 0) rfl))) rfl rfl dX7_undo_2 ?_
  refine j_if_ne F (tgt := 12) dX7_undo_5 (by decide) (by unfold rg; omega) (fun h9 => by exfalso; omega) (fun c5 => ?_)
  refine j_iconst F dX7_undo_8 ?_
  refine j_goto F (tgt := 13) dX7_undo_9 (by decide) ?_
  refine j_putf F (ref := "CairnGameModel") (C := RX7) (T := TX7) (N := 27) (ci := 7) (index := 60) (ty := .int) (ws' := moC g ad 1 (cC.1, cC.2.1, 0, cC.2.2.2.1, cC.2.2.2.2) cT cL cP) (fun w h => (List.mem_cons_of_mem _ (List.mem_append_right _ h))) tyX7 tyX7_ok nmX7 0 rfl rfl 0 (by decide) (List.mem_cons_of_mem _ (List.mem_append_left _ (List.mem_of_getElem? (i := 1) rfl))) rfl rfl rfl rfl rfl (lt_ble rfl) rfl dX7_undo_13 ?_
  refine j_aload_n F dX7_undo_16 rfl 0 rfl ?_
  refine j_getf F (ref := "CairnGameModel") (C := RX7) (T := TX7) (N := 27) (ci := 7) (index := 60) (v := .int (iI 1)) (fun w h => (List.mem_cons_of_mem _ (List.mem_append_right _ h))) 0 rfl rfl 0 (by decide) (List.mem_cons_of_mem _ (List.mem_append_left _ (List.mem_of_getElem? (i := 1) rfl))) rfl rfl dX7_undo_17 ?_
  refine j_if_le F (tgt := 25) dX7_undo_20 (by decide) (by unfold rg; omega) (fun h9 => by exfalso; omega) (fun c20 => ?_)
  refine j_iconst F dX7_undo_23 ?_
  exact ret _ () 0 0 _ _ dX7_undo_24 (by decide) (by decide) trivial

end X7I