/-! worlds up to their order; calls that take a part of a world -/
theorem va_P_mem {D : va_G} {cl : List vw_C} {w : va_W} {H : Heap} : va_P D cl w H ↔ ∀ q ∈ w, va_at D cl q H := by
  constructor
  · intro h q hq
    obtain ⟨k, hk⟩ := List.getElem?_of_mem hq
    exact h k q hk
  · intro h k q hk
    exact h q (List.mem_of_getElem? hk)
theorem va_D_nd {A : Nat → Prop} {w : va_W} : va_D A w ↔ (w.map (fun q => q.1)).Nodup ∧ ∀ q ∈ w, A q.1 := by
  constructor
  · intro h
    refine ⟨?_, fun q hq => ?_⟩
    · refine List.pairwise_iff_getElem.mpr (fun i j hi hj hij e => ?_)
      have hi2 : i < w.length := by rw [List.length_map] at hi; exact hi
      have hj2 : j < w.length := by rw [List.length_map] at hj; exact hj
      have e2 : (w[i]'hi2).1 = (w[j]'hj2).1 := by rw [List.getElem_map, List.getElem_map] at e; exact e
      have := h.1 i j _ _ (List.getElem?_eq_getElem hi2) (List.getElem?_eq_getElem hj2) e2
      omega
    · obtain ⟨k, hk⟩ := List.getElem?_of_mem hq
      exact h.2 k q hk
  · intro h
    refine ⟨fun i j x y hi hj e => ?_, fun k q hk => h.2 q (List.mem_of_getElem? hk)⟩
    have li := (List.getElem?_eq_some_iff.mp hi).1
    have ei : (w.map (fun q => q.1))[i]? = some x.1 := by rw [List.getElem?_map, hi]; rfl
    have ej : (w.map (fun q => q.1))[j]? = some y.1 := by rw [List.getElem?_map, hj]; rfl
    exact (List.getElem?_inj (by rw [List.length_map]; exact li) h.1).mp (by rw [ei, ej, e])
theorem va_P_perm {D : va_G} {cl : List vw_C} {w w2 : va_W} {H : Heap} (p : w.Perm w2) (h : va_P D cl w H) : va_P D cl w2 H := va_P_mem.mpr (fun q hq => va_P_mem.mp h q (p.mem_iff.mpr hq))
theorem va_D_perm {A : Nat → Prop} {w w2 : va_W} (p : w.Perm w2) (h : va_D A w) : va_D A w2 := by
  have h := va_D_nd.mp h
  exact va_D_nd.mpr ⟨(p.map (fun q => q.1)).nodup_iff.mp h.1, fun q hq => h.2 q (p.mem_iff.mpr hq)⟩
theorem va_P_left {D : va_G} {cl : List vw_C} {w1 w2 : va_W} {H : Heap} (h : va_P D cl (w1 ++ w2) H) : va_P D cl w1 H := va_P_mem.mpr (fun q hq => va_P_mem.mp h q (List.mem_append_left _ hq))
theorem va_P_right {D : va_G} {cl : List vw_C} {w1 w2 : va_W} {H : Heap} (h : va_P D cl (w1 ++ w2) H) : va_P D cl w2 H := va_P_mem.mpr (fun q hq => va_P_mem.mp h q (List.mem_append_right _ hq))
theorem va_D_left {A : Nat → Prop} {w1 w2 : va_W} (h : va_D A (w1 ++ w2)) : va_D A w1 := by
  have h := va_D_nd.mp h
  rw [List.map_append, List.nodup_append] at h
  exact va_D_nd.mpr ⟨h.1.1, fun q hq => h.2 q (List.mem_append_left _ hq)⟩
theorem va_D_right {A : Nat → Prop} {w1 w2 : va_W} (h : va_D A (w1 ++ w2)) : va_D A w2 := by
  have h := va_D_nd.mp h
  rw [List.map_append, List.nodup_append] at h
  exact va_D_nd.mpr ⟨h.1.2.1, fun q hq => h.2 q (List.mem_append_right _ hq)⟩
/-- behind a call on w1 beside w2: w1's part is new, w2 stays -/
theorem va_beside {A : Nat → Prop} {D : va_G} {cl : List vw_C} {w1 w2 v : va_W} {H H1 : Heap} (hP : va_P D cl (w1 ++ w2) H) (hD : va_D A (w1 ++ w2)) (hk : ∀ q : Nat, q < H.size → ¬ va_A w1 H.size q → H1[q]? = H[q]?) (hF : ∀ q, va_A w1 H.size q → A q) (hP1 : va_P D cl v H1) (hD1 : va_D (va_A w1 H.size) v) : va_P D cl (v ++ w2) H1 ∧ va_D A (v ++ w2) := by
  have hP2 := va_P_mem.mp (va_P_right hP)
  have hDn := va_D_nd.mp hD
  rw [List.map_append, List.nodup_append] at hDn
  have apart : ∀ q ∈ w2, q.1 < H.size ∧ ¬ va_A w1 H.size q.1 := fun q hq => by
    have hl := (hP2 q hq).lt
    refine ⟨hl, fun z => ?_⟩
    rcases z with ⟨k, e, z⟩ | z
    · exact hDn.1.2.2 _ (List.mem_map.mpr ⟨_, List.mem_of_getElem? z, rfl⟩) _ (List.mem_map.mpr ⟨q, hq, rfl⟩) rfl
    · omega
  refine ⟨va_P.app hP1 (va_P_mem.mpr (fun q hq => (hP2 q hq).kept (hk q.1 (apart q hq).1 (apart q hq).2))), va_D.app (hD1.weaken (fun _ _ _ h => hF _ h)) (va_D_right hD) (fun i j x y hx hy e => ?_)⟩
  have z := hD1.2 i x hx
  rw [e] at z
  exact (apart y (List.mem_of_getElem? hy)).2 z
section CP
variable {p : Program} {l : Launch} {e : Env} {R : Room} {s : State} {m : MethodId} {args : Array Value} {below : List Frame} {meth : Method} {c : Code} {H : Heap} {locs : List Loc} {cells slots : Nat} {Q : State → Prop}
variable {cc : ByteArray} {pc : Nat} {ls : Array Slot} {rest st0 : List Value} {S : Type} {y : MethodName} {wy Ts : List Cond} {fr lo n index nL maxLy : Nat} {D : va_G} {C : Nat → ClassId} {b : Nat} {As : List Value} {w wc wr : va_W} {w' wn : S → va_W} {own Cn : String} {bytes : ByteArray} {rety : Option FieldType} {A : Nat → Prop} {H0 : Heap}
theorem CI_callVp {post : Int32 → S → Prop} {q0 ci : Nat} {fs : List Value} {q : vw_C} (F : CallFix p m c cc nL s args Ts own) (hM : CI l y wy fr lo D C (.ref b :: As) wc w' post) (cw : CallW R s args own Cn index y bytes maxLy rety wy (rmN fr lo) 0 0 n) (he : wc[q0]? = some (b, .inr (ci, fs))) (hcl : vwCl[ci]? = some q) (hCn : q.1 = Cn) (hK : va_K D vwCl (ty4 C) s) (hNW : NW s) (hP : va_P D vwCl w H) (hD : va_D A w) (hS : va_S A H0 H locs) (hA : ∀ q, H0.size ≤ q → A q)
    (hp1 : w.Perm (wc ++ wr)) (hp2 : ∀ u, (w' u ++ wr).Perm (wn u)) (hn : As.length = n) (hsize : ls.size = nL) (hst : st0 = As.reverse ++ .ref b :: rest) (hW : (rest.map fun v => v.category).sum ≤ 8) (d : decode cc pc = .ok (.invokevirtual index, 3)) (hf : cells ≤ R.cells ∧ slots ≤ R.slots)
    (k : ∀ (r : Int32) (u : S) (H1 : Heap) (locs1 : List Loc), post r u → va_P D vwCl (wn u) H1 → va_D A (wn u) → va_S A H0 H1 locs1 → W p l e R s m args below meth c H1 locs1 cells slots Q (F0 m (pc + 3) ls (.int r :: rest))) : W p l e R s m args below meth c H locs cells slots Q (F0 m pc ls st0) := by
  have hP' := va_P_perm hp1 hP
  have hD' := va_D_perm hp1 hD
  have hPc : va_P D vwCl wc H := va_P_left hP'
  have hDc : va_D A wc := va_D_left hD'
  have hFc : ∀ q, va_A wc H.size q → A q := va_A_in hDc hS hA
  refine va_calli (va_runV (As := As) (rest := rest) F (hM H.size) cw ⟨wA_blind D C wc H.size _, by have hv := va_recv hK hPc hcl he; rw [hCn] at hv; exact hv, fun U hU hW => ⟨rfl, by rw [hU], by rw [hU]; exact hPc, va_K.moved hW.alike hK, hDc.weaken (fun _ _ _ _ => trivial), NW_warm hNW hW⟩⟩ rfl hn hsize hst (lv_room hW) d hf) hS (fun q _ h => hFc q h) hFc (fun r u t H1 locs1 ht hvm hw hB hz1 hk1 hS1 => ?_)
  obtain ⟨hP1, hK1, hD1⟩ := hB
  rw [ht] at hP1
  obtain ⟨hP2, hD2⟩ := va_beside hP' hD' hk1 hFc hP1 hD1
  exact k r u H1 locs1 hw (va_P_perm (hp2 u) hP2) (va_D_perm (hp2 u) hD2) hS1
theorem CI_callSp {post : Int32 → S → Prop} (F : CallFix p m c cc nL s args Ts own) (hM : CI l y wy fr lo D C As wc w' post) (cw : CallB R s args own index y bytes maxLy rety wy (rmN fr lo) 0 0 n ∧ (Cond.static y).before args s = true) (hK : va_K D vwCl (ty4 C) s) (hNW : NW s) (hP : va_P D vwCl w H) (hD : va_D A w) (hS : va_S A H0 H locs) (hA : ∀ q, H0.size ≤ q → A q)
    (hp1 : w.Perm (wc ++ wr)) (hp2 : ∀ u, (w' u ++ wr).Perm (wn u)) (hn : As.length = n) (hsize : ls.size = nL) (hst : st0 = As.reverse ++ rest) (hW : (rest.map fun v => v.category).sum ≤ 8) (d : decode cc pc = .ok (.invokestatic index, 3)) (hf : cells ≤ R.cells ∧ slots ≤ R.slots)
    (k : ∀ (r : Int32) (u : S) (H1 : Heap) (locs1 : List Loc), post r u → va_P D vwCl (wn u) H1 → va_D A (wn u) → va_S A H0 H1 locs1 → W p l e R s m args below meth c H1 locs1 cells slots Q (F0 m (pc + 3) ls (.int r :: rest))) : W p l e R s m args below meth c H locs cells slots Q (F0 m pc ls st0) := by
  have hP' := va_P_perm hp1 hP
  have hD' := va_D_perm hp1 hD
  have hPc : va_P D vwCl wc H := va_P_left hP'
  have hDc : va_D A wc := va_D_left hD'
  have hFc : ∀ q, va_A wc H.size q → A q := va_A_in hDc hS hA
  refine va_calli (va_runS (As := As) (rest := rest) F (hM H.size) cw ⟨wA_blind D C wc H.size _, fun U hU hW => ⟨rfl, by rw [hU], by rw [hU]; exact hPc, va_K.moved hW.alike hK, hDc.weaken (fun _ _ _ _ => trivial), NW_warm hNW hW⟩⟩ rfl hn hsize hst (lv_room hW) d hf) hS (fun q _ h => hFc q h) hFc (fun r u t H1 locs1 ht hvm hw hB hz1 hk1 hS1 => ?_)
  obtain ⟨hP1, hK1, hD1⟩ := hB
  rw [ht] at hP1
  obtain ⟨hP2, hD2⟩ := va_beside hP' hD' hk1 hFc hP1 hD1
  exact k r u H1 locs1 hw (va_P_perm (hp2 u) hP2) (va_D_perm (hp2 u) hD2) hS1
theorem CV_callVp {post : S → Prop} {q0 ci : Nat} {fs : List Value} {q : vw_C} (F : CallFix p m c cc nL s args Ts own) (hM : CV l y wy fr lo D C (.ref b :: As) wc w' post) (cw : CallW R s args own Cn index y bytes maxLy rety wy (rmN fr lo) 0 0 n) (he : wc[q0]? = some (b, .inr (ci, fs))) (hcl : vwCl[ci]? = some q) (hCn : q.1 = Cn) (hK : va_K D vwCl (ty4 C) s) (hNW : NW s) (hP : va_P D vwCl w H) (hD : va_D A w) (hS : va_S A H0 H locs) (hA : ∀ q, H0.size ≤ q → A q)
    (hp1 : w.Perm (wc ++ wr)) (hp2 : ∀ u, (w' u ++ wr).Perm (wn u)) (hn : As.length = n) (hsize : ls.size = nL) (hst : st0 = As.reverse ++ .ref b :: rest) (hW : (rest.map fun v => v.category).sum ≤ 8) (d : decode cc pc = .ok (.invokevirtual index, 3)) (hf : cells ≤ R.cells ∧ slots ≤ R.slots)
    (k : ∀ (u : S) (H1 : Heap) (locs1 : List Loc), post u → va_P D vwCl (wn u) H1 → va_D A (wn u) → va_S A H0 H1 locs1 → W p l e R s m args below meth c H1 locs1 cells slots Q (F0 m (pc + 3) ls (rest))) : W p l e R s m args below meth c H locs cells slots Q (F0 m pc ls st0) := by
  have hP' := va_P_perm hp1 hP
  have hD' := va_D_perm hp1 hD
  have hPc : va_P D vwCl wc H := va_P_left hP'
  have hDc : va_D A wc := va_D_left hD'
  have hFc : ∀ q, va_A wc H.size q → A q := va_A_in hDc hS hA
  refine va_callv (va_runV (As := As) (rest := rest) F (hM H.size) cw ⟨wA_blind D C wc H.size _, by have hv := va_recv hK hPc hcl he; rw [hCn] at hv; exact hv, fun U hU hW => ⟨rfl, by rw [hU], by rw [hU]; exact hPc, va_K.moved hW.alike hK, hDc.weaken (fun _ _ _ _ => trivial), NW_warm hNW hW⟩⟩ rfl hn hsize hst (lv_room hW) d hf) hS (fun q _ h => hFc q h) hFc (fun u t H1 locs1 ht hvm hw hB hz1 hk1 hS1 => ?_)
  obtain ⟨hP1, hK1, hD1⟩ := hB
  rw [ht] at hP1
  obtain ⟨hP2, hD2⟩ := va_beside hP' hD' hk1 hFc hP1 hD1
  exact k u H1 locs1 hw (va_P_perm (hp2 u) hP2) (va_D_perm (hp2 u) hD2) hS1
theorem CV_callSp {post : S → Prop} (F : CallFix p m c cc nL s args Ts own) (hM : CV l y wy fr lo D C As wc w' post) (cw : CallB R s args own index y bytes maxLy rety wy (rmN fr lo) 0 0 n ∧ (Cond.static y).before args s = true) (hK : va_K D vwCl (ty4 C) s) (hNW : NW s) (hP : va_P D vwCl w H) (hD : va_D A w) (hS : va_S A H0 H locs) (hA : ∀ q, H0.size ≤ q → A q)
    (hp1 : w.Perm (wc ++ wr)) (hp2 : ∀ u, (w' u ++ wr).Perm (wn u)) (hn : As.length = n) (hsize : ls.size = nL) (hst : st0 = As.reverse ++ rest) (hW : (rest.map fun v => v.category).sum ≤ 8) (d : decode cc pc = .ok (.invokestatic index, 3)) (hf : cells ≤ R.cells ∧ slots ≤ R.slots)
    (k : ∀ (u : S) (H1 : Heap) (locs1 : List Loc), post u → va_P D vwCl (wn u) H1 → va_D A (wn u) → va_S A H0 H1 locs1 → W p l e R s m args below meth c H1 locs1 cells slots Q (F0 m (pc + 3) ls (rest))) : W p l e R s m args below meth c H locs cells slots Q (F0 m pc ls st0) := by
  have hP' := va_P_perm hp1 hP
  have hD' := va_D_perm hp1 hD
  have hPc : va_P D vwCl wc H := va_P_left hP'
  have hDc : va_D A wc := va_D_left hD'
  have hFc : ∀ q, va_A wc H.size q → A q := va_A_in hDc hS hA
  refine va_callv (va_runS (As := As) (rest := rest) F (hM H.size) cw ⟨wA_blind D C wc H.size _, fun U hU hW => ⟨rfl, by rw [hU], by rw [hU]; exact hPc, va_K.moved hW.alike hK, hDc.weaken (fun _ _ _ _ => trivial), NW_warm hNW hW⟩⟩ rfl hn hsize hst (lv_room hW) d hf) hS (fun q _ h => hFc q h) hFc (fun u t H1 locs1 ht hvm hw hB hz1 hk1 hS1 => ?_)
  obtain ⟨hP1, hK1, hD1⟩ := hB
  rw [ht] at hP1
  obtain ⟨hP2, hD2⟩ := va_beside hP' hD' hk1 hFc hP1 hD1
  exact k u H1 locs1 hw (va_P_perm (hp2 u) hP2) (va_D_perm (hp2 u) hD2) hS1
end CP
