/-! ===== LAW: refused ===== -/
section LREF
set_option maxHeartbeats 4000000 in
set_option maxRecDepth 100000 in
theorem c_L_refused {l : Launch} (hfl : l.flags = flags0) (D : va_G) (g : GT) (z : ZT) (ga sa ho la so ta sb sd : Nat) (L : List Nat) (G S M Nn : Nat) (f hh : NF) (hrow : Nat) (hf : Nat → Option Nat) (ha hb hd : Nat → Nat) (hv : Nat → StT) (nx ct : Nat) (k i v : Nat) (hLH : okH L) (hr : rep f L) (hG : 1 ≤ G ∧ G ≤ 5) (hS : S ≤ 1) (hM : M ≤ 1) (hN : Nn ≤ 1) (hfr : ∀ k, k < 6 → hf k = some (ha k)) (hnx : nx < 6) (hct6 : ct ≤ 6) (hk : k < 3) (hi : i < L.length) (hv0 : k = 0 → 1 ≤ v ∧ v ≤ 5) (hv1 : k = 1 → 1 ≤ v ∧ v ≤ 6) (hv2 : k = 2 → v < L.length ∧ ¬ i = v) (hno : ¬ posMv G S M L k i v) : HI l yL_refused wsL_refused [(0, 45, 46, 131)] 9 159 4 D g z [.ref ga, .int (iI (k : Int)), .int (iI (i : Int)), .int (iI (v : Int))] (gmC ga sa ho la so ta ++ (stC g sa sb sd ((L.length : Nat) : Int) (G : Int) (S : Int) (M : Int) (Nn : Int) f hh ++ (hoC g ho hrow (nx : Int) (ct : Int) hf ++ (hsC g ha hb hd hv)))) (fun (r9 : Int32) (u9 : Unit) => r9 = iI 1) (fun (u9 : Unit) => gmC ga sa ho la so ta ++ (stC g sa sb sd ((L.length : Nat) : Int) (G : Int) (S : Int) (M : Int) (Nn : Int) f hh ++ (hoC g ho hrow (nx : Int) (ct : Int) hf ++ (hsC g ha hb hd hv)))) 3 18 := by
  refine HI_of hfl (own := RL) ⟨8, 3, 18, 135⟩ 9 159 4 (by decide +kernel) rfl rfl ⟨by decide, by decide, by decide +kernel⟩ ⟨by decide, by decide⟩ (le_ble rfl) (fun _ _ h => by rw [h]; exact nar_zb (Or.inr rfl)) ?_
  intro p e s m below meth c A Q F hE ret
  change J p l e _ s m _ below meth c A D _ Q 0 0 (gmC ga sa ho la so ta ++ (stC g sa sb sd ((L.length : Nat) : Int) (G : Int) (S : Int) (M : Int) (Nn : Int) f hh ++ (hoC g ho hrow (nx : Int) (ct : Int) hf ++ (hsC g ha hb hd hv)))) [(0, .ref ga), (1, .int (iI (k : Int))), (2, .int (iI (i : Int))), (3, .int (iI (v : Int)))] [] 0
  have h12 := okH_len hLH
  have ei : ((i : Int)).toNat = i := by omega
  have ev : ((v : Int)).toNat = v := by omega
  have hvb : v ≤ 12 := by rcases (show k = 0 ∨ k = 1 ∨ k = 2 by omega) with h9 | h9 | h9; (have := hv0 h9; omega); (have := hv1 h9; omega); (have := hv2 h9; omega)
  refine j_iload_n F dL_refused_0 rfl 1 rfl ?_
  refine j_if_ne F (tgt := 13) dL_refused_1 (by decide) (by unfold rg; omega) (fun c1 => ?_) (fun c1 => ?_)
  · refine j_iload_n F dL_refused_13 rfl 1 rfl ?_
    refine j_iconst F dL_refused_14 ?_
    refine j_icmp_ne F (tgt := 27) dL_refused_15 (by decide) ⟨(by unfold rg; omega), (by unfold rg; omega)⟩ (fun c2 => ?_) (fun c2 => ?_)
    · have hk9 : k = 2 := by omega
      have hpk : ¬ posMv G S M L 2 i v := fun h9 => hno (by rw [hk9]; exact h9)
      refine j_aload_n F dL_refused_27 rfl 0 rfl ?_
      refine j_iload_n F dL_refused_28 rfl 2 rfl ?_
      refine j_iload_n F dL_refused_29 rfl 3 rfl ?_
      refine J.wsEq (ws2 := (gmC ga sa ho la so ta ++ (stC g sa sb sd ((L.length : Nat) : Int) (G : Int) (S : Int) (M : Int) (Nn : Int) f hh ++ (hoC g ho hrow (nx : Int) (ct : Int) hf ++ (hsC g ha hb hd hv)))) ++ []) (List.append_nil _).symm ?_
      refine j_callVt_I F (As := [.int (iI (i : Int)), .int (iI (v : Int))]) (wr := []) (st := []) (c_X6_merge hfl D g z ga sa ho la so ta sb sd L G S M Nn f hh hrow hf ha hb hd hv nx ct (i : Int) (v : Int) hLH hr hG hS hM hN hfr hnx hct6 (by unfold rg; omega) (by unfold rg; omega)) (idx := 128) (C := RX6) gL_refused_X6_merge rfl rfl (ci := 6) (q0 := 0) rfl rfl (by decide) (by decide) (le_ble rfl) ⟨by decide, by decide⟩ dL_refused_30 (fun E9 u9 hx9 => ?_) (fun r9 u9 h9 => ?_)
      · have eE : E9 = ISE := by
          rcases hx9 with h9 | h9 | h9
          · exact absurd (show (0 ≤ (i : Int) ∧ (i : Int) < (L.length : Int)) ∧ (0 ≤ (v : Int) ∧ (v : Int) < (L.length : Int)) by have h8 := hv2 hk9; omega) h9.2
          · exact absurd h9.2.2 (by have h8 := (hv2 hk9).2; omega)
          · exact h9.1
        subst eE
        refine JX_catch F [] ⟨0, 45, 46, 131⟩ [] (by rw [hE]; rfl) (fun y hy => absurd hy List.not_mem_nil) (by decide) (by decide) (List.mem_cons_of_mem _ (List.mem_append_left _ (List.mem_append_left _ (List.mem_append_left _ (List.mem_append_left _ (List.mem_append_left _ (List.mem_append_left _ (List.mem_append_left _ (List.mem_of_getElem? (l := wsL_refused_r1) (i := 0) rfl))))))))) (List.mem_of_getElem? (i := 1) rfl) (fun q9 => ?_)
        refine J.wsEq (ws2 := gmC ga sa ho la so ta ++ (stC g sa sb sd ((L.length : Nat) : Int) (G : Int) (S : Int) (M : Int) (Nn : Int) f hh ++ (hoC g ho hrow (nx : Int) (ct : Int) hf ++ (hsC g ha hb hd hv)))) (List.append_nil _) ?_
        refine j_astore F (lv' := (4, .ref q9) :: [(0, .ref ga), (1, .int (iI (k : Int))), (2, .int (iI (i : Int))), (3, .int (iI (v : Int)))]) dL_refused_46 (by decide) rfl ?_
        refine j_iconst F dL_refused_48 ?_
        exact ret _ () 3 18 _ _ dL_refused_49 (by decide) (by decide) rfl
      · refine False.elim (hpk ?_)
        have h8 := h9.1.1
        rw [ei, ev] at h8
        exact h8
    · have hk9 : k = 1 := by omega
      have hpk : ¬ posMv G S M L 1 i v := fun h9 => hno (by rw [hk9]; exact h9)
      refine j_aload_n F dL_refused_18 rfl 0 rfl ?_
      refine j_iload_n F dL_refused_19 rfl 2 rfl ?_
      refine j_iload_n F dL_refused_20 rfl 3 rfl ?_
      refine J.wsEq (ws2 := (gmC ga sa ho la so ta ++ (stC g sa sb sd ((L.length : Nat) : Int) (G : Int) (S : Int) (M : Int) (Nn : Int) f hh ++ (hoC g ho hrow (nx : Int) (ct : Int) hf ++ (hsC g ha hb hd hv)))) ++ []) (List.append_nil _).symm ?_
      refine j_callVt_I F (As := [.int (iI (i : Int)), .int (iI (v : Int))]) (wr := []) (st := []) (c_X6_split hfl D g z ga sa ho la so ta sb sd L G S M Nn f hh hrow hf ha hb hd hv nx ct (i : Int) (v : Int) hLH hr hG hS hM hN hfr hnx hct6 (by unfold rg; omega) (by unfold rg; omega)) (idx := 125) (C := RX6) gL_refused_X6_split rfl rfl (ci := 6) (q0 := 0) rfl rfl (by decide) (by decide) (le_ble rfl) ⟨by decide, by decide⟩ dL_refused_21 (fun E9 u9 hx9 => ?_) (fun r9 u9 h9 => ?_)
      · have eE : E9 = ISE := by
          rcases hx9 with h9 | h9 | h9
          · exact absurd (show 0 ≤ (i : Int) ∧ (i : Int) < (L.length : Int) by omega) h9.2
          · exact absurd (by have h8 := hv1 hk9; omega) h9.2.2
          · exact h9.1
        subst eE
        refine JX_catch F [] ⟨0, 45, 46, 131⟩ [] (by rw [hE]; rfl) (fun y hy => absurd hy List.not_mem_nil) (by decide) (by decide) (List.mem_cons_of_mem _ (List.mem_append_left _ (List.mem_append_left _ (List.mem_append_left _ (List.mem_append_left _ (List.mem_append_left _ (List.mem_append_left _ (List.mem_append_left _ (List.mem_of_getElem? (l := wsL_refused_r1) (i := 0) rfl))))))))) (List.mem_of_getElem? (i := 1) rfl) (fun q9 => ?_)
        refine J.wsEq (ws2 := gmC ga sa ho la so ta ++ (stC g sa sb sd ((L.length : Nat) : Int) (G : Int) (S : Int) (M : Int) (Nn : Int) f hh ++ (hoC g ho hrow (nx : Int) (ct : Int) hf ++ (hsC g ha hb hd hv)))) (List.append_nil _) ?_
        refine j_astore F (lv' := (4, .ref q9) :: [(0, .ref ga), (1, .int (iI (k : Int))), (2, .int (iI (i : Int))), (3, .int (iI (v : Int)))]) dL_refused_46 (by decide) rfl ?_
        refine j_iconst F dL_refused_48 ?_
        exact ret _ () 3 18 _ _ dL_refused_49 (by decide) (by decide) rfl
      · refine False.elim (hpk ?_)
        have h8 := h9.1.1
        rw [ei, ev] at h8
        exact h8
  · have hk9 : k = 0 := by omega
    have hpk : ¬ posMv G S M L 0 i v := fun h9 => hno (by rw [hk9]; exact h9)
    refine j_aload_n F dL_refused_4 rfl 0 rfl ?_
    refine j_iload_n F dL_refused_5 rfl 2 rfl ?_
    refine j_iload_n F dL_refused_6 rfl 3 rfl ?_
    refine J.wsEq (ws2 := (gmC ga sa ho la so ta ++ (stC g sa sb sd ((L.length : Nat) : Int) (G : Int) (S : Int) (M : Int) (Nn : Int) f hh ++ (hoC g ho hrow (nx : Int) (ct : Int) hf ++ (hsC g ha hb hd hv)))) ++ []) (List.append_nil _).symm ?_
    refine j_callVt_I F (As := [.int (iI (i : Int)), .int (iI (v : Int))]) (wr := []) (st := []) (c_X6_take hfl D g z ga sa ho la so ta sb sd L G S M Nn f hh hrow hf ha hb hd hv nx ct (i : Int) (v : Int) hLH hr hG hS hM hN hfr hnx hct6 (by unfold rg; omega) (by unfold rg; omega)) (idx := 121) (C := RX6) gL_refused_X6_take rfl rfl (ci := 6) (q0 := 0) rfl rfl (by decide) (by decide) (le_ble rfl) ⟨by decide, by decide⟩ dL_refused_7 (fun E9 u9 hx9 => ?_) (fun r9 u9 h9 => ?_)
    · have eE : E9 = ISE := by
        rcases hx9 with h9 | h9 | h9
        · exact absurd (show 0 ≤ (i : Int) ∧ (i : Int) < (L.length : Int) by omega) h9.2
        · exact absurd (by have h8 := hv0 hk9; omega) h9.2.2
        · exact h9.1
      subst eE
      refine JX_catch F [] ⟨0, 45, 46, 131⟩ [] (by rw [hE]; rfl) (fun y hy => absurd hy List.not_mem_nil) (by decide) (by decide) (List.mem_cons_of_mem _ (List.mem_append_left _ (List.mem_append_left _ (List.mem_append_left _ (List.mem_append_left _ (List.mem_append_left _ (List.mem_append_left _ (List.mem_append_left _ (List.mem_of_getElem? (l := wsL_refused_r1) (i := 0) rfl))))))))) (List.mem_of_getElem? (i := 1) rfl) (fun q9 => ?_)
      refine J.wsEq (ws2 := gmC ga sa ho la so ta ++ (stC g sa sb sd ((L.length : Nat) : Int) (G : Int) (S : Int) (M : Int) (Nn : Int) f hh ++ (hoC g ho hrow (nx : Int) (ct : Int) hf ++ (hsC g ha hb hd hv)))) (List.append_nil _) ?_
      refine j_astore F (lv' := (4, .ref q9) :: [(0, .ref ga), (1, .int (iI (k : Int))), (2, .int (iI (i : Int))), (3, .int (iI (v : Int)))]) dL_refused_46 (by decide) rfl ?_
      refine j_iconst F dL_refused_48 ?_
      exact ret _ () 3 18 _ _ dL_refused_49 (by decide) (by decide) rfl
    · refine False.elim (hpk ?_)
      have h8 := h9.1.1
      rw [ei, ev] at h8
      exact h8

end LREF
