/-! ===== LAW: here, move, won ===== -/
section LMOVE
section
variable {G S M : Nat} {L : List Nat} {f : NF} {i v : Nat}
theorem mv_0a (hr : rep f L) (hL : okH L) (h : posMv G S M L 0 i v) (hz : f i - (v : Int) = 0) : (apL L 0 i v).length = L.length - 1 ∧ rep (rmP (nup f i (f i - (v : Int))) i (L.length - 1)) (apL L 0 i v) := by
  have h9 := coF_rep hr hL h
  unfold coF shkF at h9
  rw [if_pos rfl, if_pos hz] at h9
  exact ⟨h9.1.symm, h9.2⟩
theorem mv_0b (hr : rep f L) (hL : okH L) (h : posMv G S M L 0 i v) (hz : ¬ f i - (v : Int) = 0) : (apL L 0 i v).length = L.length ∧ rep (nup f i (f i - (v : Int))) (apL L 0 i v) := by
  have h9 := coF_rep hr hL h
  unfold coF shkF at h9
  rw [if_pos rfl, if_neg hz] at h9
  exact ⟨h9.1.symm, h9.2⟩
theorem mv_1 (hr : rep f L) (hL : okH L) (h : posMv G S M L 1 i v) : (apL L 1 i v).length = L.length + 1 ∧ rep (nup (nup (shF f L.length (i + 1)) (i + 1) (f i - (v : Int))) i (v : Int)) (apL L 1 i v) := by
  have h9 := coF_rep hr hL h
  unfold coF at h9
  rw [if_neg (by decide), if_pos rfl] at h9
  exact ⟨h9.1.symm, h9.2⟩
theorem mv_2 (hr : rep f L) (hL : okH L) (h : posMv G S M L 2 i v) (hiv : i < v) : (apL L 2 i v).length = L.length - 1 ∧ rep (rmP (nup f i (f i + (f v - 1))) v (L.length - 1)) (apL L 2 i v) := by
  have h9 := coF_rep hr hL h
  unfold coF mrgF at h9
  have et : ((v : Int)).toNat = v := by omega
  rw [if_neg (by decide), if_neg (by decide), et, Nat.min_eq_left (by omega), Nat.max_eq_right (by omega), Int.add_sub_assoc] at h9
  exact ⟨h9.1.symm, h9.2⟩
end

set_option maxHeartbeats 4000000 in
set_option maxRecDepth 100000 in
theorem c_L_here {l : Launch} (hfl : l.flags = flags0) (D : va_G) (g : GT) (z : ZT) (ha : Nat) (hF : NF) (L : List Nat) (hL : okS L) (hr : rep hF L) : CI l yL_here wsL_here 3 65 2 D g z [.int (iI ((L.length : Nat) : Int)), .ref ha] ([(ha, iR g 12 hF)]) (fun (r9 : Int32) (u9 : Unit) => r9 = iI ((codeL L : Nat) : Int)) (fun (u9 : Unit) => [(ha, iR g 12 hF)]) 1 8 := by
  refine CI_of hfl (own := RL) ⟨2, 1, 8, 42⟩ 3 65 2 (by decide +kernel) rfl rfl ⟨by decide, by decide, by decide +kernel⟩ ⟨by decide, by decide⟩ (le_ble rfl) (fun _ _ _ => rfl) ?_
  intro p e s m below meth c A Q F ret
  change J p l e _ s m _ below meth c A D _ Q 0 0 ([(ha, iR g 12 hF)]) [(0, .int (iI ((L.length : Nat) : Int))), (1, .ref ha)] [] 0
  refine j_bipush F dL_here_0 (by decide) ?_
  refine j_newa_i F (ws' := fun q2 => [(ha, iR g 12 hF)] ++ ([(q2, iR g 8 (fun _ => 0))])) 8 rfl (by decide) (List.mem_cons_of_mem _ (List.mem_of_getElem? (i := 0) rfl)) (by decide) (by decide) dL_here_2 (fun _ => rfl) (fun q2 => ?_)
  refine j_astore_n F (lv' := [(2, .ref q2), (0, .int (iI ((L.length : Nat) : Int))), (1, .ref ha)]) dL_here_4 rfl (by decide) rfl ?_
  refine j_iconst F dL_here_5 ?_
  refine j_istore_n F (lv' := [(3, .int (iI 0)), (2, .ref q2), (0, .int (iI ((L.length : Nat) : Int))), (1, .ref ha)]) dL_here_6 rfl (by decide) rfl ?_
  refine J.loc [0, 1, 2, 3] rfl ?_
  refine J.wsEq (ws2 := [(ha, iR g 12 hF)] ++ ([(q2, iR g 8 (cntF L 0))])) (by rw [cntF_0]) ?_
  refine J_loop (σ := Nat) (fun j : Nat => j ≤ L.length) (fun j : Nat => L.length - j) (fun j : Nat => [(ha, iR g 12 hF)] ++ ([(q2, iR g 8 (cntF L j))])) (fun j : Nat => [(3, .int (iI (j : Int))), (2, .ref q2), (0, .int (iI ((L.length : Nat) : Int))), (1, .ref ha)]) (0) (by show 0 ≤ L.length; exact Nat.zero_le _) ?_
  rintro j hI ih7
  have hI : j ≤ L.length := hI
  have hlen := okS_len hL
  refine j_iload_n F dL_here_7 rfl 0 rfl ?_
  refine j_iload_n F dL_here_8 rfl 2 rfl ?_
  refine j_icmp_ge F (tgt := 27) dL_here_9 (by decide) ⟨(by unfold rg; omega), (by unfold rg; omega)⟩ (fun c9 => ?_) (fun c9 => ?_)
  · refine j_aload_n F dL_here_27 rfl 1 rfl ?_
    refine J.permL (ws2 := [(q2, iR g 8 (cntF L j))] ++ ([(ha, iR g 12 hF)])) (pm_c pm_e (List.Perm.refl _)) ?_
    refine j_callSx_I F (As := [.ref q2]) (wr := [(ha, iR g 12 hF)]) (st := []) (c_L_code hfl D g z q2 (cntF L j)) (idx := 20) gL_here_L_code rfl  (by decide) (by decide) (le_ble rfl) ⟨by decide, by decide⟩ dL_here_28 ?_
    rintro r9 u9 rfl
    rw [cntF_c (show j = L.length by omega)]
    refine J.wsEq (ws2 := [(q2, iR g 8 (cntF L j))] ++ ([(ha, iR g 12 hF)])) (by first | rfl | simp only [List.append_assoc, List.append_nil, List.nil_append]) ?_
    refine J.permL (ws2 := [(ha, iR g 12 hF)] ++ ([(q2, iR g 8 (cntF L j))])) (pm_c pm_e (List.Perm.refl _)) ?_
    refine J.perm (ws' := [(ha, iR g 12 hF)]) [0] rfl rfl ?_
    exact ret _ () 1 8 _ _ dL_here_31 (by decide) (by decide) rfl
  · have hjl : j < L.length := by omega
    have hat := okS_at hL hjl
    refine j_aload_n F dL_here_12 rfl 1 rfl ?_
    refine j_aload_n F dL_here_13 rfl 3 rfl ?_
    refine j_iload_n F dL_here_14 rfl 0 rfl ?_
    refine j_iald F 0 (n := 12) (f := hF) rfl j (rfl) (by omega) (by decide) dL_here_15 ?_
    refine J.top (congrArg iI (show hF j = (((L.getD j 0) : Nat) : Int) from hr j hjl)) ?_
    refine j_dup2 F dL_here_16 rfl rfl ?_
    refine j_iald F 1 (n := 8) (f := (cntF L j)) rfl (L.getD j 0) (rfl) (by omega) (by decide) dL_here_17 ?_
    refine j_iconst F dL_here_18 ?_
    refine j_iadd F dL_here_19 ?_
    refine j_iast F (ws' := [(ha, iR g 12 hF)] ++ ([(q2, iR g 8 (nup (cntF L j) (L.getD j 0) ((cntF L j) (L.getD j 0) + 1)))])) 1 (n := 8) (f := (cntF L j)) rfl (L.getD j 0) (rfl) (by omega) (by decide) rfl dL_here_20 ?_
    refine J.wsEq (ws2 := [(ha, iR g 12 hF)] ++ ([(q2, iR g 8 (cntF L (j + 1)))])) (by first | (rw [cntF_s hjl]) | (dsimp only; rw [cntF_s hjl])) ?_
    refine j_iinc F (lv' := [(3, .int (iI ((j : Int) + 1))), (2, .ref q2), (0, .int (iI ((L.length : Nat) : Int))), (1, .ref ha)]) dL_here_21 0 rfl (by decide) rfl ?_
    refine j_goto F (tgt := 7) dL_here_24 (by decide) ?_
    refine J.loc [0, 1, 2, 3] rfl ?_
    exact ih7 (j + 1) (by show (j + 1) ≤ L.length; omega) (by show L.length - (j + 1) < L.length - j; omega)

set_option maxHeartbeats 4000000 in
set_option maxRecDepth 100000 in
theorem c_L_move {l : Launch} (hfl : l.flags = flags0) (D : va_G) (g : GT) (z : ZT) (ha : Nat) (hF : NF) (L : List Nat) (G S M k i v : Nat) (hL : okS L) (hr : rep hF L) (hp : posMv G S M L k i v) (h2v : k = 2 → i < v) : CI l yL_move wsL_move 1 26 5 D g z [.int (iI (k : Int)), .int (iI (i : Int)), .int (iI (v : Int)), .int (iI ((L.length : Nat) : Int)), .ref ha] ([(ha, iR g 12 hF)]) (fun (r9 : Int32) (u9 : NF) => rep u9 (apL L k i v) ∧ r9 = iI (((apL L k i v).length : Nat) : Int)) (fun (u9 : NF) => [(ha, iR g 12 u9)]) 0 0 := by
  refine CI_of hfl (own := RL) ⟨0, 0, 0, 0⟩ 1 26 5 (by decide +kernel) rfl rfl ⟨by decide, by decide, by decide +kernel⟩ ⟨by decide, by decide⟩ (le_ble rfl) (fun _ _ _ => rfl) ?_
  intro p e s m below meth c A Q F ret
  change J p l e _ s m _ below meth c A D _ Q 0 0 ([(ha, iR g 12 hF)]) [(0, .int (iI (k : Int))), (1, .int (iI (i : Int))), (2, .int (iI (v : Int))), (3, .int (iI ((L.length : Nat) : Int))), (4, .ref ha)] [] 0
  have hH := okS_H hL
  have hlen := okS_len hL
  have hil := hp.1
  have hat := okS_at hL hil
  have hri := hr i hil
  have hvb : v ≤ 7 ∧ k < 3 ∧ (k = 0 → 1 ≤ v ∧ v ≤ L.getD i 0) ∧ (k = 1 → 1 ≤ v ∧ 2 * v ≤ L.getD i 0) ∧ (k = 2 → v < L.length) := by obtain ⟨-, h | h | h⟩ := hp <;> omega
  have hk3 := hvb.2.1
  refine j_iload_n F dL_move_0 rfl 0 rfl ?_
  refine j_iconst F dL_move_1 ?_
  refine j_icmp_ne F (tgt := 55) dL_move_2 (by decide) ⟨(by unfold rg; omega), (by unfold rg; omega)⟩ (fun c2 => ?_) (fun c2 => ?_)
  · refine j_iload_n F dL_move_55 rfl 0 rfl ?_
    refine j_if_ne F (tgt := 63) dL_move_56 (by decide) (by unfold rg; omega) (fun c56 => ?_) (fun c56 => ?_)
    · have ek : k = 2 := by omega
      have hpk : posMv G S M L 2 i v := ek ▸ hp
      have hiv := h2v ek
      refine j_iload_n F dL_move_63 rfl 2 rfl ?_
      refine j_istore F (lv' := [(5, .int (iI (v : Int))), (0, .int (iI (k : Int))), (1, .int (iI (i : Int))), (2, .int (iI (v : Int))), (3, .int (iI ((L.length : Nat) : Int))), (4, .ref ha)]) dL_move_64 (by decide) rfl ?_
      refine j_iload_n F dL_move_66 rfl 1 rfl ?_
      refine j_if_ne F (tgt := 81) dL_move_67 (by decide) (by unfold rg; omega) (fun c67 => ?_) (fun h9 => by exfalso; omega)
      refine j_aload F dL_move_81 5 rfl ?_
      refine j_iload_n F dL_move_83 rfl 2 rfl ?_
      refine j_dup2 F dL_move_84 rfl rfl ?_
      refine j_iald F 0 (n := 12) (f := hF) rfl i (rfl) (by omega) (by decide) dL_move_85 ?_
      refine j_aload F dL_move_86 5 rfl ?_
      refine j_iload_n F dL_move_88 rfl 3 rfl ?_
      refine j_iald F 0 (n := 12) (f := hF) rfl v (rfl) (by omega) (by decide) dL_move_89 ?_
      refine j_iconst F dL_move_90 ?_
      refine j_isub F dL_move_91 ?_
      refine j_iadd F dL_move_92 ?_
      refine j_iast F (ws' := [(ha, iR g 12 (nup hF i (hF i + (hF v - 1))))]) 0 (n := 12) (f := hF) rfl i (rfl) (by omega) (by decide) rfl dL_move_93 ?_
      refine j_iload_n F dL_move_94 rfl 1 rfl ?_
      refine j_if_ne F (tgt := 107) dL_move_95 (by decide) (by unfold rg; omega) (fun c95 => ?_) (fun h9 => by exfalso; omega)
      refine j_iload F dL_move_107 0 rfl ?_
      refine j_istore F (lv' := [(6, .int (iI (v : Int))), (5, .int (iI (v : Int))), (0, .int (iI (k : Int))), (1, .int (iI (i : Int))), (2, .int (iI (v : Int))), (3, .int (iI ((L.length : Nat) : Int))), (4, .ref ha)]) dL_move_109 (by decide) rfl ?_
      refine J.loc [0, 1, 2, 3, 4, 5, 6] rfl ?_
      refine J_loop (σ := Nat × (Nat → Int)) (fun x9 : Nat × (Nat → Int) => match x9 with | (x, G9) => (v ≤ x ∧ x ≤ L.length - 1) ∧ G9 = rmP (nup hF i (hF i + (hF v - 1))) v x) (fun x9 : Nat × (Nat → Int) => match x9 with | (x, G9) => L.length - 1 - x) (fun x9 : Nat × (Nat → Int) => match x9 with | (x, G9) => [(ha, iR g 12 G9)]) (fun x9 : Nat × (Nat → Int) => match x9 with | (x, G9) => [(6, .int (iI (x : Int))), (5, .int (iI (v : Int))), (0, .int (iI (k : Int))), (1, .int (iI (i : Int))), (2, .int (iI (v : Int))), (3, .int (iI ((L.length : Nat) : Int))), (4, .ref ha)]) (v, (nup hF i (hF i + (hF v - 1)))) (by show (v ≤ v ∧ v ≤ L.length - 1) ∧ (nup hF i (hF i + (hF v - 1))) = rmP (nup hF i (hF i + (hF v - 1))) v v; exact ⟨by omega, (rmP_0 _ _).symm⟩) ?_
      rintro ⟨x, G9⟩ hI ih111
      have hI : (v ≤ x ∧ x ≤ L.length - 1) ∧ G9 = rmP (nup hF i (hF i + (hF v - 1))) v x := hI
      obtain ⟨⟨x1, x2⟩, x3⟩ := hI
      refine j_iload F dL_move_111 0 rfl ?_
      refine j_iload_n F dL_move_113 rfl 5 rfl ?_
      refine j_iconst F dL_move_114 ?_
      refine j_isub F dL_move_115 ?_
      refine j_icmp_ge F (tgt := 137) dL_move_116 (by decide) ⟨(by unfold rg; omega), (by unfold rg; omega)⟩ (fun c116 => ?_) (fun c116 => ?_)
      · refine j_iload_n F dL_move_137 rfl 5 rfl ?_
        refine j_iconst F dL_move_138 ?_
        refine j_isub F dL_move_139 ?_
        have hmv := mv_2 hr hH hpk hiv
        have e8 : x = L.length - 1 := by omega
        refine J.wsEq (ws2 := [(ha, iR g 12 (rmP (nup hF i (hF i + (hF v - 1))) v (L.length - 1)))]) (by first | (rw [x3, e8]) | (dsimp only; rw [x3, e8])) ?_
        exact ret _ (rmP (nup hF i (hF i + (hF v - 1))) v (L.length - 1)) 0 0 _ _ dL_move_140 (by decide) (by decide) (⟨by rw [ek]; exact hmv.2, congrArg iI (by rw [ek, hmv.1]; omega)⟩)
      · refine j_aload F dL_move_119 6 rfl ?_
        refine j_iload F dL_move_121 0 rfl ?_
        refine j_aload F dL_move_123 6 rfl ?_
        refine j_iload F dL_move_125 0 rfl ?_
        refine j_iconst F dL_move_127 ?_
        refine j_iadd F dL_move_128 ?_
        refine j_iald F 0 (n := 12) (f := G9) rfl (x + 1) (by omega) (by omega) (by decide) dL_move_129 ?_
        refine j_iast F (ws' := [(ha, iR g 12 (nup G9 x (G9 (x + 1))))]) 0 (n := 12) (f := G9) rfl x (rfl) (by omega) (by decide) rfl dL_move_130 ?_
        refine j_iinc F (lv' := [(6, .int (iI ((x : Int) + 1))), (5, .int (iI (v : Int))), (0, .int (iI (k : Int))), (1, .int (iI (i : Int))), (2, .int (iI (v : Int))), (3, .int (iI ((L.length : Nat) : Int))), (4, .ref ha)]) dL_move_131 0 rfl (by decide) rfl ?_
        refine j_goto F (tgt := 111) dL_move_134 (by decide) ?_
        refine J.loc [0, 1, 2, 3, 4, 5, 6] rfl ?_
        exact ih111 ((x + 1), (nup G9 x (G9 (x + 1)))) (by show (v ≤ (x + 1) ∧ (x + 1) ≤ L.length - 1) ∧ (nup G9 x (G9 (x + 1))) = rmP (nup hF i (hF i + (hF v - 1))) v (x + 1); exact ⟨by omega, by rw [x3]; exact rmP_s _ x1⟩) (by show L.length - 1 - (x + 1) < L.length - 1 - x; omega)
    · have ek : k = 0 := by omega
      have hpk : posMv G S M L 0 i v := ek ▸ hp
      refine j_iload_n F dL_move_59 rfl 1 rfl ?_
      refine j_goto F (tgt := 64) dL_move_60 (by decide) ?_
      refine j_istore F (lv' := [(5, .int (iI (i : Int))), (0, .int (iI (k : Int))), (1, .int (iI (i : Int))), (2, .int (iI (v : Int))), (3, .int (iI ((L.length : Nat) : Int))), (4, .ref ha)]) dL_move_64 (by decide) rfl ?_
      refine j_iload_n F dL_move_66 rfl 1 rfl ?_
      refine j_if_ne F (tgt := 81) dL_move_67 (by decide) (by unfold rg; omega) (fun h9 => by exfalso; omega) (fun c67 => ?_)
      refine j_aload F dL_move_70 5 rfl ?_
      refine j_iload_n F dL_move_72 rfl 2 rfl ?_
      refine j_dup2 F dL_move_73 rfl rfl ?_
      refine j_iald F 0 (n := 12) (f := hF) rfl i (rfl) (by omega) (by decide) dL_move_74 ?_
      refine j_iload_n F dL_move_75 rfl 3 rfl ?_
      refine j_isub F dL_move_76 ?_
      refine j_iast F (ws' := [(ha, iR g 12 (nup hF i (hF i - (v : Int))))]) 0 (n := 12) (f := hF) rfl i (rfl) (by omega) (by decide) rfl dL_move_77 ?_
      refine j_goto F (tgt := 94) dL_move_78 (by decide) ?_
      refine j_iload_n F dL_move_94 rfl 1 rfl ?_
      refine j_if_ne F (tgt := 107) dL_move_95 (by decide) (by unfold rg; omega) (fun h9 => by exfalso; omega) (fun c95 => ?_)
      refine j_aload F dL_move_98 5 rfl ?_
      refine j_iload_n F dL_move_100 rfl 2 rfl ?_
      refine j_iald F 0 (n := 12) (f := (nup hF i (hF i - (v : Int)))) rfl i (rfl) (by omega) (by decide) dL_move_101 ?_
      refine J.top (congrArg iI (show (nup hF i (hF i - (v : Int))) i = (hF i - (v : Int)) from nup_s _ _ _)) ?_
      refine j_if_le F (tgt := 107) dL_move_102 (by decide) (by unfold rg; omega) (fun c102 => ?_) (fun c102 => ?_)
      · refine j_iload F dL_move_107 0 rfl ?_
        refine j_istore F (lv' := [(6, .int (iI (i : Int))), (5, .int (iI (i : Int))), (0, .int (iI (k : Int))), (1, .int (iI (i : Int))), (2, .int (iI (v : Int))), (3, .int (iI ((L.length : Nat) : Int))), (4, .ref ha)]) dL_move_109 (by decide) rfl ?_
        refine J.loc [0, 1, 2, 3, 4, 5, 6] rfl ?_
        refine J_loop (σ := Nat × (Nat → Int)) (fun x9 : Nat × (Nat → Int) => match x9 with | (x, G9) => (i ≤ x ∧ x ≤ L.length - 1) ∧ G9 = rmP (nup hF i (hF i - (v : Int))) i x) (fun x9 : Nat × (Nat → Int) => match x9 with | (x, G9) => L.length - 1 - x) (fun x9 : Nat × (Nat → Int) => match x9 with | (x, G9) => [(ha, iR g 12 G9)]) (fun x9 : Nat × (Nat → Int) => match x9 with | (x, G9) => [(6, .int (iI (x : Int))), (5, .int (iI (i : Int))), (0, .int (iI (k : Int))), (1, .int (iI (i : Int))), (2, .int (iI (v : Int))), (3, .int (iI ((L.length : Nat) : Int))), (4, .ref ha)]) (i, (nup hF i (hF i - (v : Int)))) (by show (i ≤ i ∧ i ≤ L.length - 1) ∧ (nup hF i (hF i - (v : Int))) = rmP (nup hF i (hF i - (v : Int))) i i; exact ⟨by omega, (rmP_0 _ _).symm⟩) ?_
        rintro ⟨x, G9⟩ hI ih111
        have hI : (i ≤ x ∧ x ≤ L.length - 1) ∧ G9 = rmP (nup hF i (hF i - (v : Int))) i x := hI
        obtain ⟨⟨x1, x2⟩, x3⟩ := hI
        refine j_iload F dL_move_111 0 rfl ?_
        refine j_iload_n F dL_move_113 rfl 5 rfl ?_
        refine j_iconst F dL_move_114 ?_
        refine j_isub F dL_move_115 ?_
        refine j_icmp_ge F (tgt := 137) dL_move_116 (by decide) ⟨(by unfold rg; omega), (by unfold rg; omega)⟩ (fun c116 => ?_) (fun c116 => ?_)
        · refine j_iload_n F dL_move_137 rfl 5 rfl ?_
          refine j_iconst F dL_move_138 ?_
          refine j_isub F dL_move_139 ?_
          have hz : hF i - (v : Int) = 0 := by omega
          have hmv := mv_0a hr hH hpk hz
          have e8 : x = L.length - 1 := by omega
          refine J.wsEq (ws2 := [(ha, iR g 12 (rmP (nup hF i (hF i - (v : Int))) i (L.length - 1)))]) (by first | (rw [x3, e8]) | (dsimp only; rw [x3, e8])) ?_
          exact ret _ (rmP (nup hF i (hF i - (v : Int))) i (L.length - 1)) 0 0 _ _ dL_move_140 (by decide) (by decide) (⟨by rw [ek]; exact hmv.2, congrArg iI (by rw [ek, hmv.1]; omega)⟩)
        · refine j_aload F dL_move_119 6 rfl ?_
          refine j_iload F dL_move_121 0 rfl ?_
          refine j_aload F dL_move_123 6 rfl ?_
          refine j_iload F dL_move_125 0 rfl ?_
          refine j_iconst F dL_move_127 ?_
          refine j_iadd F dL_move_128 ?_
          refine j_iald F 0 (n := 12) (f := G9) rfl (x + 1) (by omega) (by omega) (by decide) dL_move_129 ?_
          refine j_iast F (ws' := [(ha, iR g 12 (nup G9 x (G9 (x + 1))))]) 0 (n := 12) (f := G9) rfl x (rfl) (by omega) (by decide) rfl dL_move_130 ?_
          refine j_iinc F (lv' := [(6, .int (iI ((x : Int) + 1))), (5, .int (iI (i : Int))), (0, .int (iI (k : Int))), (1, .int (iI (i : Int))), (2, .int (iI (v : Int))), (3, .int (iI ((L.length : Nat) : Int))), (4, .ref ha)]) dL_move_131 0 rfl (by decide) rfl ?_
          refine j_goto F (tgt := 111) dL_move_134 (by decide) ?_
          refine J.loc [0, 1, 2, 3, 4, 5, 6] rfl ?_
          exact ih111 ((x + 1), (nup G9 x (G9 (x + 1)))) (by show (i ≤ (x + 1) ∧ (x + 1) ≤ L.length - 1) ∧ (nup G9 x (G9 (x + 1))) = rmP (nup hF i (hF i - (v : Int))) i (x + 1); exact ⟨by omega, by rw [x3]; exact rmP_s _ x1⟩) (by show L.length - 1 - (x + 1) < L.length - 1 - x; omega)
      · refine j_iload_n F dL_move_105 rfl 4 rfl ?_
        have hmv := mv_0b hr hH hpk (by omega)
        exact ret _ (nup hF i (hF i - (v : Int))) 0 0 _ _ dL_move_106 (by decide) (by decide) (⟨by rw [ek]; exact hmv.2, by rw [ek, hmv.1]⟩)
  · have ek : k = 1 := by omega
    have hpk : posMv G S M L 1 i v := ek ▸ hp
    refine j_iload_n F dL_move_5 rfl 3 rfl ?_
    refine j_istore F (lv' := [(5, .int (iI ((L.length : Nat) : Int))), (0, .int (iI (k : Int))), (1, .int (iI (i : Int))), (2, .int (iI (v : Int))), (3, .int (iI ((L.length : Nat) : Int))), (4, .ref ha)]) dL_move_6 (by decide) rfl ?_
    refine J.loc [0, 1, 2, 3, 4, 5] rfl ?_
    refine J_loop (σ := Int × (Nat → Int)) (fun x9 : Int × (Nat → Int) => match x9 with | (j, G9) => ((i : Int) + 1 ≤ j ∧ j ≤ (L.length : Int)) ∧ G9 = shF hF L.length (j).toNat) (fun x9 : Int × (Nat → Int) => match x9 with | (j, G9) => (j).toNat) (fun x9 : Int × (Nat → Int) => match x9 with | (j, G9) => [(ha, iR g 12 G9)]) (fun x9 : Int × (Nat → Int) => match x9 with | (j, G9) => [(5, .int (iI j)), (0, .int (iI (k : Int))), (1, .int (iI (i : Int))), (2, .int (iI (v : Int))), (3, .int (iI ((L.length : Nat) : Int))), (4, .ref ha)]) (((L.length : Nat) : Int), hF) (by show ((i : Int) + 1 ≤ ((L.length : Nat) : Int) ∧ ((L.length : Nat) : Int) ≤ (L.length : Int)) ∧ hF = shF hF L.length (((L.length : Nat) : Int)).toNat; exact ⟨by omega, by rw [show ((L.length : Nat) : Int).toNat = L.length from by omega, shF_0]⟩) ?_
    rintro ⟨j, G9⟩ hI ih8
    have hI : ((i : Int) + 1 ≤ j ∧ j ≤ (L.length : Int)) ∧ G9 = shF hF L.length (j).toNat := hI
    obtain ⟨⟨h1, h2⟩, h3⟩ := hI
    refine j_iload F dL_move_8 0 rfl ?_
    refine j_iload_n F dL_move_10 rfl 2 rfl ?_
    refine j_iconst F dL_move_11 ?_
    refine j_iadd F dL_move_12 ?_
    refine j_icmp_le F (tgt := 34) dL_move_13 (by decide) ⟨(by unfold rg; omega), (by unfold rg; omega)⟩ (fun c13 => ?_) (fun c13 => ?_)
    · have e9 : j.toNat = i + 1 := by omega
      refine J.wsEq (ws2 := [(ha, iR g 12 (shF hF L.length (i + 1)))]) (by first | (rw [h3, e9]) | (dsimp only; rw [h3, e9])) ?_
      refine j_aload F dL_move_34 5 rfl ?_
      refine j_iload_n F dL_move_36 rfl 2 rfl ?_
      refine j_iconst F dL_move_37 ?_
      refine j_iadd F dL_move_38 ?_
      refine j_aload F dL_move_39 5 rfl ?_
      refine j_iload_n F dL_move_41 rfl 2 rfl ?_
      refine j_iald F 0 (n := 12) (f := (shF hF L.length (i + 1))) rfl i (rfl) (by omega) (by decide) dL_move_42 ?_
      refine J.top (congrArg iI (show (shF hF L.length (i + 1)) i = hF i from by unfold shF; rw [if_neg (by omega)])) ?_
      refine j_iload_n F dL_move_43 rfl 3 rfl ?_
      refine j_isub F dL_move_44 ?_
      refine j_iast F (ws' := [(ha, iR g 12 (nup (shF hF L.length (i + 1)) (i + 1) (hF i - (v : Int))))]) 0 (n := 12) (f := (shF hF L.length (i + 1))) rfl (i + 1) (by omega) (by omega) (by decide) rfl dL_move_45 ?_
      refine j_aload F dL_move_46 5 rfl ?_
      refine j_iload_n F dL_move_48 rfl 2 rfl ?_
      refine j_iload_n F dL_move_49 rfl 3 rfl ?_
      refine j_iast F (ws' := [(ha, iR g 12 (nup (nup (shF hF L.length (i + 1)) (i + 1) (hF i - (v : Int))) i (v : Int)))]) 0 (n := 12) (f := (nup (shF hF L.length (i + 1)) (i + 1) (hF i - (v : Int)))) rfl i (rfl) (by omega) (by decide) rfl dL_move_50 ?_
      refine j_iload_n F dL_move_51 rfl 4 rfl ?_
      refine j_iconst F dL_move_52 ?_
      refine j_iadd F dL_move_53 ?_
      have hmv := mv_1 hr hH hpk
      exact ret _ (nup (nup (shF hF L.length (i + 1)) (i + 1) (hF i - (v : Int))) i (v : Int)) 0 0 _ _ dL_move_54 (by decide) (by decide) (⟨by rw [ek]; exact hmv.2, by rw [ek, hmv.1]; rfl⟩)
    · refine j_aload F dL_move_16 5 rfl ?_
      refine j_iload F dL_move_18 0 rfl ?_
      refine j_aload F dL_move_20 5 rfl ?_
      refine j_iload F dL_move_22 0 rfl ?_
      refine j_iconst F dL_move_24 ?_
      refine j_isub F dL_move_25 ?_
      refine j_iald F 0 (n := 12) (f := G9) rfl (((j - 1)).toNat) (by omega) (by omega) (by decide) dL_move_26 ?_
      refine j_iast F (ws' := [(ha, iR g 12 (nup G9 ((j).toNat) (G9 (((j - 1)).toNat))))]) 0 (n := 12) (f := G9) rfl ((j).toNat) (by omega) (by omega) (by decide) rfl dL_move_27 ?_
      refine j_iinc F (lv' := [(5, .int (iI (j + (-1)))), (0, .int (iI (k : Int))), (1, .int (iI (i : Int))), (2, .int (iI (v : Int))), (3, .int (iI ((L.length : Nat) : Int))), (4, .ref ha)]) dL_move_28 0 rfl (by decide) rfl ?_
      refine j_goto F (tgt := 8) dL_move_31 (by decide) ?_
      refine J.loc [0, 1, 2, 3, 4, 5] rfl ?_
      exact ih8 ((j + (-1)), nup G9 (j).toNat (G9 ((j - 1)).toNat)) (by show ((i : Int) + 1 ≤ (j + (-1)) ∧ (j + (-1)) ≤ (L.length : Int)) ∧ (nup G9 (j).toNat (G9 ((j - 1)).toNat)) = shF hF L.length ((j + (-1))).toNat; exact ⟨by omega, by rw [h3]; exact shF_sI hF (by omega) (by omega)⟩) (by show ((j + (-1))).toNat < (j).toNat; omega)

set_option maxHeartbeats 4000000 in
set_option maxRecDepth 100000 in
theorem c_L_won {l : Launch} (hfl : l.flags = flags0) (D : va_G) (g : GT) (z : ZT) (qa ga wa k nm : Nat) (qF gF wF : NF) (v : VT) (hk : k < 64) (hq : qF 3 = (nm : Int)) (hn : nm ≤ 1) (hg : gF k = ((v.1 : Nat) : Int)) (hw : wF k = ((v.2.1 : Nat) : Int)) (hv : v.1 ≤ 23 ∧ v.2.1 ≤ 1) : CI l yL_won wsL_won 1 23 4 D g z [.int (iI (k : Int)), .ref qa, .ref ga, .ref wa] ([(qa, iR g 8 qF)] ++ ([(ga, iR g 64 gF)] ++ ([(wa, iR g 64 wF)]))) (fun (r9 : Int32) (u9 : Unit) => r9 = iI ((wonV v nm : Nat) : Int)) (fun (u9 : Unit) => [(qa, iR g 8 qF)] ++ ([(ga, iR g 64 gF)] ++ ([(wa, iR g 64 wF)]))) 0 0 := by
  refine CI_of hfl (own := RL) ⟨0, 0, 0, 0⟩ 1 23 4 (by decide +kernel) rfl rfl ⟨by decide, by decide, by decide +kernel⟩ ⟨by decide, by decide⟩ (le_ble rfl) (fun _ _ h => nar_01 h (by have h9 := wonV_01 hv.2 nm; omega)) ?_
  intro p e s m below meth c A Q F ret
  change J p l e _ s m _ below meth c A D _ Q 0 0 ([(qa, iR g 8 qF)] ++ ([(ga, iR g 64 gF)] ++ ([(wa, iR g 64 wF)]))) [(0, .int (iI (k : Int))), (1, .ref qa), (2, .ref ga), (3, .ref wa)] [] 0
  refine j_aload_n F dL_won_0 rfl 1 rfl ?_
  refine j_iconst F dL_won_1 ?_
  refine j_iald F 0 (n := 8) (f := qF) rfl 3 (by decide) (by decide) (by decide) dL_won_2 ?_
  refine J.top (congrArg iI (show qF 3 = (nm : Int) from hq)) ?_
  refine j_iconst F dL_won_3 ?_
  refine j_icmp_ne F (tgt := 21) dL_won_4 (by decide) ⟨(by unfold rg; omega), (by unfold rg; omega)⟩ (fun c4 => ?_) (fun c4 => ?_)
  · refine j_aload_n F dL_won_21 rfl 3 rfl ?_
    refine j_iload_n F dL_won_22 rfl 0 rfl ?_
    refine j_iald F 2 (n := 64) (f := wF) rfl k (rfl) (by omega) (by decide) dL_won_23 ?_
    refine J.top (congrArg iI (show wF k = ((v.2.1 : Nat) : Int) from hw)) ?_
    refine j_iconst F dL_won_24 ?_
    refine j_icmp_ne F (tgt := 32) dL_won_25 (by decide) ⟨(by unfold rg; omega), (by unfold rg; omega)⟩ (fun c25 => ?_) (fun c25 => ?_)
    · refine j_iconst F dL_won_32 ?_
      exact ret _ () 0 0 _ _ dL_won_33 (by decide) (by decide) (congrArg iI (by unfold wonV; (repeat' split) <;> omega))
    · refine j_iconst F dL_won_28 ?_
      refine j_goto F (tgt := 33) dL_won_29 (by decide) ?_
      exact ret _ () 0 0 _ _ dL_won_33 (by decide) (by decide) (congrArg iI (by unfold wonV; (repeat' split) <;> omega))
  · refine j_aload_n F dL_won_7 rfl 2 rfl ?_
    refine j_iload_n F dL_won_8 rfl 0 rfl ?_
    refine j_iald F 1 (n := 64) (f := gF) rfl k (rfl) (by omega) (by decide) dL_won_9 ?_
    refine J.top (congrArg iI (show gF k = ((v.1 : Nat) : Int) from hg)) ?_
    refine j_if_le F (tgt := 17) dL_won_10 (by decide) (by unfold rg; omega) (fun c10 => ?_) (fun c10 => ?_)
    · refine j_iconst F dL_won_17 ?_
      refine j_goto F (tgt := 33) dL_won_18 (by decide) ?_
      exact ret _ () 0 0 _ _ dL_won_33 (by decide) (by decide) (congrArg iI (by unfold wonV; (repeat' split) <;> omega))
    · refine j_iconst F dL_won_13 ?_
      refine j_goto F (tgt := 33) dL_won_14 (by decide) ?_
      exact ret _ () 0 0 _ _ dL_won_33 (by decide) (by decide) (congrArg iI (by unfold wonV; (repeat' split) <;> omega))

end LMOVE
