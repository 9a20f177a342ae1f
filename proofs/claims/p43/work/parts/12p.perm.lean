/-! ===== WORLDS IN ANOTHER ORDER; calls on a prefix of the world ===== -/
section PERM
theorem vaP_iff {D : va_G} {ws : va_W} {H : Heap} : va_P D vwCl ws H ↔ ∀ q ∈ ws, va_at D vwCl q H := by
  constructor
  · intro h q hq
    obtain ⟨k, hk⟩ := List.getElem?_of_mem hq
    exact h k q hk
  · intro h k q hk
    exact h q (List.mem_of_getElem? hk)
theorem vaD_iff {A : Nat → Prop} {ws : va_W} : va_D A ws ↔ (ws.map (fun q => q.1)).Nodup ∧ ∀ q ∈ ws, A q.1 := by
  constructor
  · rintro ⟨h1, h2⟩
    refine ⟨?_, ?_⟩
    · refine List.pairwise_iff_getElem.mpr ?_
      intro i j hi hj hij e
      rw [List.getElem_map, List.getElem_map] at e
      rw [List.length_map] at hi hj
      have := h1 i j _ _ (List.getElem?_eq_getElem hi) (List.getElem?_eq_getElem hj) e
      omega
    · intro q hq
      obtain ⟨k, hk⟩ := List.getElem?_of_mem hq
      exact h2 k q hk
  · rintro ⟨h1, h2⟩
    refine ⟨?_, fun k q hk => h2 q (List.mem_of_getElem? hk)⟩
    intro i j p q hi hj e
    have h1 := List.pairwise_iff_getElem.mp h1
    have li : i < ws.length := (List.getElem?_eq_some_iff.mp hi).1
    have lj : j < ws.length := (List.getElem?_eq_some_iff.mp hj).1
    have ei : ws[i] = p := Option.some.inj ((List.getElem?_eq_getElem li).symm.trans hi)
    have ej : ws[j] = q := Option.some.inj ((List.getElem?_eq_getElem lj).symm.trans hj)
    have li2 : i < (ws.map (fun q => q.1)).length := by rw [List.length_map]; exact li
    have lj2 : j < (ws.map (fun q => q.1)).length := by rw [List.length_map]; exact lj
    have ee : (ws.map (fun q => q.1))[i] = (ws.map (fun q => q.1))[j] := by
      rw [List.getElem_map, List.getElem_map, ei, ej, e]
    rcases Nat.lt_trichotomy i j with h | h | h
    · exact absurd ee (h1 i j li2 lj2 h)
    · exact h
    · exact absurd ee.symm (h1 j i lj2 li2 h)
theorem vaP_perm {D : va_G} {ws ws' : va_W} {H : Heap} (h : ws.Perm ws') (hP : va_P D vwCl ws H) : va_P D vwCl ws' H := vaP_iff.mpr fun q hq => vaP_iff.mp hP q (h.mem_iff.mpr hq)
theorem vaD_perm {A : Nat → Prop} {ws ws' : va_W} (h : ws.Perm ws') (hD : va_D A ws) : va_D A ws' := by
  obtain ⟨h1, h2⟩ := vaD_iff.mp hD
  exact vaD_iff.mpr ⟨(h.map _).nodup_iff.mp h1, fun q hq => h2 q (h.mem_iff.mpr hq)⟩
/-- the groups of a world, one by one to the front -/
theorem pm_0 {α : Type} {G Y : List α} : (G ++ Y).Perm (G ++ Y) := List.Perm.refl _
theorem pm_s {α : Type} {B X G Y : List α} (h : X.Perm (G ++ Y)) : (B ++ X).Perm (G ++ (B ++ Y)) := by
  refine (h.append_left B).trans ?_
  rw [← List.append_assoc, ← List.append_assoc]
  exact List.perm_append_comm.append_right Y
theorem pm_e {α : Type} {B G : List α} : (B ++ G).Perm (G ++ B) := List.perm_append_comm
theorem pm_c {α : Type} {W G Y Z : List α} (h : W.Perm (G ++ Y)) (k : Y.Perm Z) : W.Perm (G ++ Z) := h.trans (k.append_left G)
theorem nd_range : ∀ (n c : Nat), va_nd ((List.range n).map (fun i => i + c)) = true := by
  have key : ∀ l : List Nat, l.Nodup → va_nd l = true := by
    intro l
    induction l with
    | nil => intro _; rfl
    | cons x l ih =>
      intro h
      have h2 := List.nodup_cons.mp h
      simp only [va_nd, Bool.and_eq_true, decide_eq_true_eq]
      exact ⟨h2.1, ih h2.2⟩
  intro n c
  apply key
  refine List.pairwise_iff_getElem.mpr ?_
  intro i j hi hj hij e
  rw [List.getElem_map, List.getElem_map, List.getElem_range, List.getElem_range] at e
  omega
theorem rng_C (wc wr : va_W) : ((List.range wc.length).map (fun i => i + 0)).map (fun i => (wc ++ wr)[i]?) = wc.map some := by
  apply List.ext_getElem (by simp)
  intro i h1 h2
  simp only [List.length_map] at h2
  simp only [List.getElem_map, List.getElem_range, Nat.add_zero]
  rw [List.getElem?_append_left h2, List.getElem?_eq_getElem h2]
theorem rng_R (wc wr : va_W) : ((List.range wr.length).map (fun i => i + wc.length)).map (fun i => (wc ++ wr)[i]?) = wr.map some := by
  apply List.ext_getElem (by simp)
  intro i h1 h2
  simp only [List.length_map] at h2
  simp only [List.getElem_map, List.getElem_range]
  rw [List.getElem?_append_right (by omega), Nat.add_sub_cancel, List.getElem?_eq_getElem h2]
theorem rng_d (wc wr : va_W) : ∀ i ∈ (List.range wr.length).map (fun i => i + wc.length), i ∉ (List.range wc.length).map (fun i => i + 0) := by
  intro i hi hc
  obtain ⟨j, hj, rfl⟩ := List.mem_map.mp hi
  obtain ⟨k, hk, e⟩ := List.mem_map.mp hc
  rw [List.mem_range] at hk
  omega
section CALLX
variable {l : Launch} {p : Program} {e : Env} {R : Room} {s : State} {m : MethodId} {args : Array Value} {below : List Frame} {meth : Method} {c : Code} {cc : ByteArray} {nL : Nat} {own : String} {Ts : List Cond} {A : Nat → Prop} {D : va_G} {g : GT} {z : ZT} {Q : State → Prop} {cells slots : Nat} {ws : va_W} {lv : List (Nat × Value)} {st : List Value} {pc : Nat}
variable {y : MethodName} {wsy : List Cond} {fr lo n mc ms : Nat} {wc wr : va_W} {S : Type}
theorem J.permL {ws2 : va_W} (h : ws.Perm ws2) (k : J p l e R s m args below meth c A D nL Q cells slots ws2 lv st pc) : J p l e R s m args below meth c A D nL Q cells slots ws lv st pc := fun H locs ls hP hD hS hl => k H locs ls (vaP_perm h hP) (vaD_perm h hD) hS hl
theorem pos_x {H H1 : Heap} {t : State} {w1 : va_W} (hP : va_P D vwCl (wc ++ wr) H) (hD : va_D A (wc ++ wr)) (ht : t.heap = H1) (hk1 : ∀ q : Nat, q < H.size → ¬ va_A wc H.size q → H1[q]? = H[q]?) (hF : ∀ q, va_A wc H.size q → A q) (h : PosB D w1 (va_A wc H.size) t) : va_P D vwCl (w1 ++ wr) H1 ∧ va_D A (w1 ++ wr) := by
  obtain ⟨h1, h2⟩ := pos_call hP hD _ _ (rng_C wc wr) (rng_R wc wr) (nd_range _ _) (rng_d wc wr) ht hk1 hF h
  exact ⟨vaP_perm List.perm_append_comm h1, vaD_perm List.perm_append_comm h2⟩
theorem j_callVx_I (F : Fx l p s m args meth c cc nL own Ts A D g z) {b : Nat} {As : List Value} {post : Int32 → S → Prop} {w1 : S → va_W} (hM : CI l y wsy fr lo n D g z (.ref b :: As) wc post w1 mc ms) {idx : Nat} {C : String} (hG : GoodIn Ts (wsV own idx C y wsy)) (hyC : y.cls = C) (hn : As.length = n) {ci q0 N : Nat} {T9 : u_T} {fs : List Value} (hrv : wc[q0]? = some (b, .inr (ci, fs))) (hcl : vwCl[ci]? = some (C, T9, N)) (hlo : lo ≤ R.locals) (hfr : fr ≤ R.frames) (hst : (st.map fun v => v.category).sum ≤ 8) (hf : cells + mc ≤ R.cells ∧ slots + ms ≤ R.slots) (d : decode cc pc = .ok (.invokevirtual idx, 3)) (kk : ∀ (r : Int32) (u : S), post r u → J p l e R s m args below meth c A D nL Q (cells + mc) (slots + ms) (w1 u ++ wr) lv (.int r :: st) (pc + 3)) : J p l e R s m args below meth c A D nL Q cells slots (wc ++ wr) lv (As.reverse ++ .ref b :: st) pc := by
  obtain ⟨rm, ⟨hrc, hrs, hfr0, ⟨bytes, maxL, ret, ws9, hw, hlo0, hvoid⟩, hy1, hy2, hy3⟩, hM⟩ := hM
  intro H locs ls hP hD hS hl
  obtain ⟨hF, hpre⟩ := pre_call F hP hD hS _ (rng_C wc wr) (nd_range _ _) (.ref b :: As)
  have hPc := sub_P hP _ (rng_C wc wr)
  refine va_calli (va_runV (As := As) (rest := st) F.fix (hM H.size) (cwV n F.ts hG hw hrc hrs ⟨hyC, hy1, hy2, hy3⟩ ⟨Nat.le_trans hfr0 hfr, Nat.le_trans hlo0 hlo⟩) ⟨PreB_blind, va_recv (q0 := q0) F.K hPc hcl hrv, hpre⟩ rfl hn hl.1 rfl (lv_room hst) d hf) hS (fun q _ h => hF q h) hF (fun r u t H1 locs1 ht hvm hp hB hz1 hk1 hS1 => ?_)
  obtain ⟨hP1, hD1⟩ := pos_x hP hD ht hk1 hF hB
  exact kk r u hp H1 locs1 ls hP1 hD1 hS1 hl
theorem j_callVx_L (F : Fx l p s m args meth c cc nL own Ts A D g z) {b : Nat} {As : List Value} {post : Int64 → S → Prop} {w1 : S → va_W} (hM : CL l y wsy fr lo n D g z (.ref b :: As) wc post w1 mc ms) {idx : Nat} {C : String} (hG : GoodIn Ts (wsV own idx C y wsy)) (hyC : y.cls = C) (hn : As.length = n) {ci q0 N : Nat} {T9 : u_T} {fs : List Value} (hrv : wc[q0]? = some (b, .inr (ci, fs))) (hcl : vwCl[ci]? = some (C, T9, N)) (hlo : lo ≤ R.locals) (hfr : fr ≤ R.frames) (hst : (st.map fun v => v.category).sum ≤ 8) (hf : cells + mc ≤ R.cells ∧ slots + ms ≤ R.slots) (d : decode cc pc = .ok (.invokevirtual idx, 3)) (kk : ∀ (r : Int64) (u : S), post r u → J p l e R s m args below meth c A D nL Q (cells + mc) (slots + ms) (w1 u ++ wr) lv (.long r :: st) (pc + 3)) : J p l e R s m args below meth c A D nL Q cells slots (wc ++ wr) lv (As.reverse ++ .ref b :: st) pc := by
  obtain ⟨rm, ⟨hrc, hrs, hfr0, ⟨bytes, maxL, ret, ws9, hw, hlo0, hvoid⟩, hy1, hy2, hy3⟩, hM⟩ := hM
  intro H locs ls hP hD hS hl
  obtain ⟨hF, hpre⟩ := pre_call F hP hD hS _ (rng_C wc wr) (nd_range _ _) (.ref b :: As)
  have hPc := sub_P hP _ (rng_C wc wr)
  refine va_calll (va_runV (As := As) (rest := st) F.fix (hM H.size) (cwV n F.ts hG hw hrc hrs ⟨hyC, hy1, hy2, hy3⟩ ⟨Nat.le_trans hfr0 hfr, Nat.le_trans hlo0 hlo⟩) ⟨PreB_blind, va_recv (q0 := q0) F.K hPc hcl hrv, hpre⟩ rfl hn hl.1 rfl (lv_room hst) d hf) hS (fun q _ h => hF q h) hF (fun r u t H1 locs1 ht hvm hp hB hz1 hk1 hS1 => ?_)
  obtain ⟨hP1, hD1⟩ := pos_x hP hD ht hk1 hF hB
  exact kk r u hp H1 locs1 ls hP1 hD1 hS1 hl
theorem j_callVx_D (F : Fx l p s m args meth c cc nL own Ts A D g z) {b : Nat} {As : List Value} {post : UInt64 → S → Prop} {w1 : S → va_W} (hM : CD l y wsy fr lo n D g z (.ref b :: As) wc post w1 mc ms) {idx : Nat} {C : String} (hG : GoodIn Ts (wsV own idx C y wsy)) (hyC : y.cls = C) (hn : As.length = n) {ci q0 N : Nat} {T9 : u_T} {fs : List Value} (hrv : wc[q0]? = some (b, .inr (ci, fs))) (hcl : vwCl[ci]? = some (C, T9, N)) (hlo : lo ≤ R.locals) (hfr : fr ≤ R.frames) (hst : (st.map fun v => v.category).sum ≤ 8) (hf : cells + mc ≤ R.cells ∧ slots + ms ≤ R.slots) (d : decode cc pc = .ok (.invokevirtual idx, 3)) (kk : ∀ (r : UInt64) (u : S), post r u → J p l e R s m args below meth c A D nL Q (cells + mc) (slots + ms) (w1 u ++ wr) lv (.double r :: st) (pc + 3)) : J p l e R s m args below meth c A D nL Q cells slots (wc ++ wr) lv (As.reverse ++ .ref b :: st) pc := by
  obtain ⟨rm, ⟨hrc, hrs, hfr0, ⟨bytes, maxL, ret, ws9, hw, hlo0, hvoid⟩, hy1, hy2, hy3⟩, hM⟩ := hM
  intro H locs ls hP hD hS hl
  obtain ⟨hF, hpre⟩ := pre_call F hP hD hS _ (rng_C wc wr) (nd_range _ _) (.ref b :: As)
  have hPc := sub_P hP _ (rng_C wc wr)
  refine va_calld (va_runV (As := As) (rest := st) F.fix (hM H.size) (cwV n F.ts hG hw hrc hrs ⟨hyC, hy1, hy2, hy3⟩ ⟨Nat.le_trans hfr0 hfr, Nat.le_trans hlo0 hlo⟩) ⟨PreB_blind, va_recv (q0 := q0) F.K hPc hcl hrv, hpre⟩ rfl hn hl.1 rfl (lv_room hst) d hf) hS (fun q _ h => hF q h) hF (fun r u t H1 locs1 ht hvm hp hB hz1 hk1 hS1 => ?_)
  obtain ⟨hP1, hD1⟩ := pos_x hP hD ht hk1 hF hB
  exact kk r u hp H1 locs1 ls hP1 hD1 hS1 hl
theorem j_callVx_V (F : Fx l p s m args meth c cc nL own Ts A D g z) {b : Nat} {As : List Value} {post : S → Prop} {w1 : S → va_W} (hM : CV l y wsy fr lo n D g z (.ref b :: As) wc post w1 mc ms) {idx : Nat} {C : String} (hG : GoodIn Ts (wsV own idx C y wsy)) (hyC : y.cls = C) (hn : As.length = n) {ci q0 N : Nat} {T9 : u_T} {fs : List Value} (hrv : wc[q0]? = some (b, .inr (ci, fs))) (hcl : vwCl[ci]? = some (C, T9, N)) (hlo : lo ≤ R.locals) (hfr : fr ≤ R.frames) (hst : (st.map fun v => v.category).sum ≤ 8) (hf : cells + mc ≤ R.cells ∧ slots + ms ≤ R.slots) (d : decode cc pc = .ok (.invokevirtual idx, 3)) (kk : ∀ (u : S), post u → J p l e R s m args below meth c A D nL Q (cells + mc) (slots + ms) (w1 u ++ wr) lv st (pc + 3)) : J p l e R s m args below meth c A D nL Q cells slots (wc ++ wr) lv (As.reverse ++ .ref b :: st) pc := by
  obtain ⟨rm, ⟨hrc, hrs, hfr0, ⟨bytes, maxL, ret, ws9, hw, hlo0, hvoid⟩, hy1, hy2, hy3⟩, hM⟩ := hM
  intro H locs ls hP hD hS hl
  obtain ⟨hF, hpre⟩ := pre_call F hP hD hS _ (rng_C wc wr) (nd_range _ _) (.ref b :: As)
  have hPc := sub_P hP _ (rng_C wc wr)
  refine va_callv (va_runV (As := As) (rest := st) F.fix (hM H.size) (cwV n F.ts hG hw hrc hrs ⟨hyC, hy1, hy2, hy3⟩ ⟨Nat.le_trans hfr0 hfr, Nat.le_trans hlo0 hlo⟩) ⟨PreB_blind, va_recv (q0 := q0) F.K hPc hcl hrv, hpre⟩ rfl hn hl.1 rfl (lv_room hst) d hf) hS (fun q _ h => hF q h) hF (fun u t H1 locs1 ht hvm hp hB hz1 hk1 hS1 => ?_)
  obtain ⟨hP1, hD1⟩ := pos_x hP hD ht hk1 hF hB
  exact kk u hp H1 locs1 ls hP1 hD1 hS1 hl
theorem j_callVx_R (F : Fx l p s m args meth c cc nL own Ts A D g z) {b : Nat} {As : List Value} {post : S → Prop} {ra : S → Nat} {w1 : S → va_W} (hM : CR l y wsy fr lo n D g z (.ref b :: As) wc post ra w1 mc ms) {idx : Nat} {C : String} (hG : GoodIn Ts (wsV own idx C y wsy)) (hyC : y.cls = C) (hn : As.length = n) {ci q0 N : Nat} {T9 : u_T} {fs : List Value} (hrv : wc[q0]? = some (b, .inr (ci, fs))) (hcl : vwCl[ci]? = some (C, T9, N)) (hlo : lo ≤ R.locals) (hfr : fr ≤ R.frames) (hst : (st.map fun v => v.category).sum ≤ 8) (hf : cells + mc ≤ R.cells ∧ slots + ms ≤ R.slots) (d : decode cc pc = .ok (.invokevirtual idx, 3)) (kk : ∀ (u : S), post u → J p l e R s m args below meth c A D nL Q (cells + mc) (slots + ms) (w1 u ++ wr) lv (.ref (ra u) :: st) (pc + 3)) : J p l e R s m args below meth c A D nL Q cells slots (wc ++ wr) lv (As.reverse ++ .ref b :: st) pc := by
  obtain ⟨rm, ⟨hrc, hrs, hfr0, ⟨bytes, maxL, ret, ws9, hw, hlo0, hvoid⟩, hy1, hy2, hy3⟩, hM⟩ := hM
  intro H locs ls hP hD hS hl
  obtain ⟨hF, hpre⟩ := pre_call F hP hD hS _ (rng_C wc wr) (nd_range _ _) (.ref b :: As)
  have hPc := sub_P hP _ (rng_C wc wr)
  refine va_callr (va_runV (As := As) (rest := st) F.fix (hM H.size) (cwV n F.ts hG hw hrc hrs ⟨hyC, hy1, hy2, hy3⟩ ⟨Nat.le_trans hfr0 hfr, Nat.le_trans hlo0 hlo⟩) ⟨PreB_blind, va_recv (q0 := q0) F.K hPc hcl hrv, hpre⟩ rfl hn hl.1 rfl (lv_room hst) d hf) hS (fun q _ h => hF q h) hF (fun u ra9 t H1 locs1 ht hvm hp hB hz1 hk1 hS1 => ?_)
  obtain ⟨e9, hB⟩ := hB
  subst e9
  obtain ⟨hP1, hD1⟩ := pos_x hP hD ht hk1 hF hB
  exact kk u hp H1 locs1 ls hP1 hD1 hS1 hl
theorem j_callSx_I (F : Fx l p s m args meth c cc nL own Ts A D g z) {As : List Value} {post : Int32 → S → Prop} {w1 : S → va_W} (hM : CI l y wsy fr lo n D g z As wc post w1 mc ms) {idx : Nat} (hG : GoodIn Ts (va_wsS own idx y wsy)) (hn : As.length = n)  (hlo : lo ≤ R.locals) (hfr : fr ≤ R.frames) (hst : (st.map fun v => v.category).sum ≤ 8) (hf : cells + mc ≤ R.cells ∧ slots + ms ≤ R.slots) (d : decode cc pc = .ok (.invokestatic idx, 3)) (kk : ∀ (r : Int32) (u : S), post r u → J p l e R s m args below meth c A D nL Q (cells + mc) (slots + ms) (w1 u ++ wr) lv (.int r :: st) (pc + 3)) : J p l e R s m args below meth c A D nL Q cells slots (wc ++ wr) lv (As.reverse ++ st) pc := by
  obtain ⟨rm, ⟨hrc, hrs, hfr0, ⟨bytes, maxL, ret, ws9, hw, hlo0, hvoid⟩, hy1, hy2, hy3⟩, hM⟩ := hM
  intro H locs ls hP hD hS hl
  obtain ⟨hF, hpre⟩ := pre_call F hP hD hS _ (rng_C wc wr) (nd_range _ _) As
  refine va_calli (va_runS (As := As) (rest := st) F.fix (hM H.size) (va_cwS n F.ts hG hw hrc hrs ⟨hy1, hy2, hy3⟩ ⟨Nat.le_trans hfr0 hfr, Nat.le_trans hlo0 hlo⟩) ⟨PreB_blind, hpre⟩ rfl hn hl.1 rfl (lv_room hst) d hf) hS (fun q _ h => hF q h) hF (fun r u t H1 locs1 ht hvm hp hB hz1 hk1 hS1 => ?_)
  obtain ⟨hP1, hD1⟩ := pos_x hP hD ht hk1 hF hB
  exact kk r u hp H1 locs1 ls hP1 hD1 hS1 hl
theorem j_callSx_L (F : Fx l p s m args meth c cc nL own Ts A D g z) {As : List Value} {post : Int64 → S → Prop} {w1 : S → va_W} (hM : CL l y wsy fr lo n D g z As wc post w1 mc ms) {idx : Nat} (hG : GoodIn Ts (va_wsS own idx y wsy)) (hn : As.length = n)  (hlo : lo ≤ R.locals) (hfr : fr ≤ R.frames) (hst : (st.map fun v => v.category).sum ≤ 8) (hf : cells + mc ≤ R.cells ∧ slots + ms ≤ R.slots) (d : decode cc pc = .ok (.invokestatic idx, 3)) (kk : ∀ (r : Int64) (u : S), post r u → J p l e R s m args below meth c A D nL Q (cells + mc) (slots + ms) (w1 u ++ wr) lv (.long r :: st) (pc + 3)) : J p l e R s m args below meth c A D nL Q cells slots (wc ++ wr) lv (As.reverse ++ st) pc := by
  obtain ⟨rm, ⟨hrc, hrs, hfr0, ⟨bytes, maxL, ret, ws9, hw, hlo0, hvoid⟩, hy1, hy2, hy3⟩, hM⟩ := hM
  intro H locs ls hP hD hS hl
  obtain ⟨hF, hpre⟩ := pre_call F hP hD hS _ (rng_C wc wr) (nd_range _ _) As
  refine va_calll (va_runS (As := As) (rest := st) F.fix (hM H.size) (va_cwS n F.ts hG hw hrc hrs ⟨hy1, hy2, hy3⟩ ⟨Nat.le_trans hfr0 hfr, Nat.le_trans hlo0 hlo⟩) ⟨PreB_blind, hpre⟩ rfl hn hl.1 rfl (lv_room hst) d hf) hS (fun q _ h => hF q h) hF (fun r u t H1 locs1 ht hvm hp hB hz1 hk1 hS1 => ?_)
  obtain ⟨hP1, hD1⟩ := pos_x hP hD ht hk1 hF hB
  exact kk r u hp H1 locs1 ls hP1 hD1 hS1 hl
theorem j_callSx_D (F : Fx l p s m args meth c cc nL own Ts A D g z) {As : List Value} {post : UInt64 → S → Prop} {w1 : S → va_W} (hM : CD l y wsy fr lo n D g z As wc post w1 mc ms) {idx : Nat} (hG : GoodIn Ts (va_wsS own idx y wsy)) (hn : As.length = n)  (hlo : lo ≤ R.locals) (hfr : fr ≤ R.frames) (hst : (st.map fun v => v.category).sum ≤ 8) (hf : cells + mc ≤ R.cells ∧ slots + ms ≤ R.slots) (d : decode cc pc = .ok (.invokestatic idx, 3)) (kk : ∀ (r : UInt64) (u : S), post r u → J p l e R s m args below meth c A D nL Q (cells + mc) (slots + ms) (w1 u ++ wr) lv (.double r :: st) (pc + 3)) : J p l e R s m args below meth c A D nL Q cells slots (wc ++ wr) lv (As.reverse ++ st) pc := by
  obtain ⟨rm, ⟨hrc, hrs, hfr0, ⟨bytes, maxL, ret, ws9, hw, hlo0, hvoid⟩, hy1, hy2, hy3⟩, hM⟩ := hM
  intro H locs ls hP hD hS hl
  obtain ⟨hF, hpre⟩ := pre_call F hP hD hS _ (rng_C wc wr) (nd_range _ _) As
  refine va_calld (va_runS (As := As) (rest := st) F.fix (hM H.size) (va_cwS n F.ts hG hw hrc hrs ⟨hy1, hy2, hy3⟩ ⟨Nat.le_trans hfr0 hfr, Nat.le_trans hlo0 hlo⟩) ⟨PreB_blind, hpre⟩ rfl hn hl.1 rfl (lv_room hst) d hf) hS (fun q _ h => hF q h) hF (fun r u t H1 locs1 ht hvm hp hB hz1 hk1 hS1 => ?_)
  obtain ⟨hP1, hD1⟩ := pos_x hP hD ht hk1 hF hB
  exact kk r u hp H1 locs1 ls hP1 hD1 hS1 hl
theorem j_callSx_V (F : Fx l p s m args meth c cc nL own Ts A D g z) {As : List Value} {post : S → Prop} {w1 : S → va_W} (hM : CV l y wsy fr lo n D g z As wc post w1 mc ms) {idx : Nat} (hG : GoodIn Ts (va_wsS own idx y wsy)) (hn : As.length = n)  (hlo : lo ≤ R.locals) (hfr : fr ≤ R.frames) (hst : (st.map fun v => v.category).sum ≤ 8) (hf : cells + mc ≤ R.cells ∧ slots + ms ≤ R.slots) (d : decode cc pc = .ok (.invokestatic idx, 3)) (kk : ∀ (u : S), post u → J p l e R s m args below meth c A D nL Q (cells + mc) (slots + ms) (w1 u ++ wr) lv st (pc + 3)) : J p l e R s m args below meth c A D nL Q cells slots (wc ++ wr) lv (As.reverse ++ st) pc := by
  obtain ⟨rm, ⟨hrc, hrs, hfr0, ⟨bytes, maxL, ret, ws9, hw, hlo0, hvoid⟩, hy1, hy2, hy3⟩, hM⟩ := hM
  intro H locs ls hP hD hS hl
  obtain ⟨hF, hpre⟩ := pre_call F hP hD hS _ (rng_C wc wr) (nd_range _ _) As
  refine va_callv (va_runS (As := As) (rest := st) F.fix (hM H.size) (va_cwS n F.ts hG hw hrc hrs ⟨hy1, hy2, hy3⟩ ⟨Nat.le_trans hfr0 hfr, Nat.le_trans hlo0 hlo⟩) ⟨PreB_blind, hpre⟩ rfl hn hl.1 rfl (lv_room hst) d hf) hS (fun q _ h => hF q h) hF (fun u t H1 locs1 ht hvm hp hB hz1 hk1 hS1 => ?_)
  obtain ⟨hP1, hD1⟩ := pos_x hP hD ht hk1 hF hB
  exact kk u hp H1 locs1 ls hP1 hD1 hS1 hl
theorem j_callIx_V (F : Fx l p s m args meth c cc nL own Ts A D g z) {b : Nat} {As : List Value} {post : S → Prop} {w1 : S → va_W} (hM : CV l y wsy fr lo n D g z (.ref b :: As) wc post w1 mc ms) {idx : Nat} (hG : GoodIn Ts wsy) (hini : Cond.initialized y.cls ∈ Ts) (hlk : Cond.methodLink own idx y ∈ Ts) (hins : Cond.instanceMethod y ∈ Ts) (hyn : y.name = "<init>") (hn : As.length = n)  (hlo : lo ≤ R.locals) (hfr : fr ≤ R.frames) (hst : (st.map fun v => v.category).sum ≤ 8) (hf : cells + mc ≤ R.cells ∧ slots + ms ≤ R.slots) (d : decode cc pc = .ok (.invokespecial idx, 3)) (kk : ∀ (u : S), post u → J p l e R s m args below meth c A D nL Q (cells + mc) (slots + ms) (w1 u ++ wr) lv st (pc + 3)) : J p l e R s m args below meth c A D nL Q cells slots (wc ++ wr) lv (As.reverse ++ .ref b :: st) pc := by
  obtain ⟨rm, ⟨hrc, hrs, hfr0, ⟨bytes, maxL, ret, ws9, hw, hlo0, hvoid⟩, hy1, hy2, hy3⟩, hM⟩ := hM
  intro H locs ls hP hD hS hl
  obtain ⟨hF, hpre⟩ := pre_call F hP hD hS _ (rng_C wc wr) (nd_range _ _) (.ref b :: As)
  have hvo := hvoid rfl; subst hvo
  refine va_callv (va_runI (As := As) (rest := st) F.fix (hM H.size) (cwI n F.ts hG hw hrc hrs (F.ts _ hini) (F.ts _ hlk) (F.ts _ hins) hyn ⟨hy1, hy2, hy3⟩ ⟨Nat.le_trans hfr0 hfr, Nat.le_trans hlo0 hlo⟩) ⟨PreB_blind, hpre⟩ rfl hn hl.1 rfl (lv_room hst) d hf) hS (fun q _ h => hF q h) hF (fun u t H1 locs1 ht hvm hp hB hz1 hk1 hS1 => ?_)
  obtain ⟨hP1, hD1⟩ := pos_x hP hD ht hk1 hF hB
  exact kk u hp H1 locs1 ls hP1 hD1 hS1 hl
theorem j_callINx_V (F : Fx l p s m args meth c cc nL own Ts A D g z) {b : Nat} {As : List Value} {post : S → Prop} {w1 : S → va_W} (hM : CV l y wsy fr lo n D g z (.ref b :: As) wc post w1 mc ms) {idx : Nat} {host : String} (hG : GoodIn Ts wsy) (hnest : Cond.methodLinkNest own idx y host ∈ nestWs) (hini : Cond.initialized y.cls ∈ Ts) (hins : Cond.instanceMethod y ∈ Ts) (hyn : y.name = "<init>") (hn : As.length = n)  (hlo : lo ≤ R.locals) (hfr : fr ≤ R.frames) (hst : (st.map fun v => v.category).sum ≤ 8) (hf : cells + mc ≤ R.cells ∧ slots + ms ≤ R.slots) (d : decode cc pc = .ok (.invokespecial idx, 3)) (kk : ∀ (u : S), post u → J p l e R s m args below meth c A D nL Q (cells + mc) (slots + ms) (w1 u ++ wr) lv st (pc + 3)) : J p l e R s m args below meth c A D nL Q cells slots (wc ++ wr) lv (As.reverse ++ .ref b :: st) pc := by
  obtain ⟨rm, ⟨hrc, hrs, hfr0, ⟨bytes, maxL, ret, ws9, hw, hlo0, hvoid⟩, hy1, hy2, hy3⟩, hM⟩ := hM
  intro H locs ls hP hD hS hl
  obtain ⟨hF, hpre⟩ := pre_call F hP hD hS _ (rng_C wc wr) (nd_range _ _) (.ref b :: As)
  have hvo := hvoid rfl; subst hvo
  refine va_callv (va_runIN (As := As) (rest := st) F.fix (hM H.size) (⟨va_cnB n F.ts hG hw hrc hrs (F.S.2.2.2.2.2.2.2.2.2.1 _ hnest) (F.ts _ hini) ⟨hy1, hy2, hy3⟩ ⟨Nat.le_trans hfr0 hfr, Nat.le_trans hlo0 hlo⟩, hyn, F.ts _ hins⟩) ⟨PreB_blind, hpre⟩ rfl hn hl.1 rfl (lv_room hst) d hf) hS (fun q _ h => hF q h) hF (fun u t H1 locs1 ht hvm hp hB hz1 hk1 hS1 => ?_)
  obtain ⟨hP1, hD1⟩ := pos_x hP hD ht hk1 hF hB
  exact kk u hp H1 locs1 ls hP1 hD1 hS1 hl
end CALLX
end PERM
