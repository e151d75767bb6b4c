/-! the class's words as string constants: what is at their places, contracts that carry it -/
def stL : List Nat := [5, 4, 5, 5]
def stB : List (List Int32) := [[112, 111, 115, 116, 115], [110, 101, 101, 100], [115, 104, 105, 102, 116], [112, 97, 117, 115, 101]]
def XS (K V : Nat → Nat) (A : Nat → Prop) (U : State) (H : Heap) : Prop := vk_S 4 stL stB K V A U H ∧ va_Z "java/lang/String" "COMPACT_STRINGS" "Z" (.int 1) A U H ∧ va_Zq "jdk/internal/util/Preconditions" "SIOOBE_FORMATTER" "Ljava/util/function/BiFunction;" A U H ∧ (vk_R RX2 102 "posts" (K 0) U ∧ vk_R RX2 108 "need" (K 1) U ∧ vk_R RX2 118 "shift" (K 2) U ∧ vk_R RX2 123 "pause" (K 3) U)
theorem XS_go {K V : Nat → Nat} {A B : Nat → Prop} {s U : State} {H : Heap} {locs : List Loc} (h : XS K V A s s.heap) (hS : va_S A s.heap H locs) (hB : ∀ q, B q → A q) (hW : s.WarmedH U.vm) : XS K V B U H := by
  obtain ⟨h1, h2, h3, h4, h5, h6, h7⟩ := h
  exact ⟨((h1.kept hS.2.1).narrow hB).moved hW.alike, ((h2.kept hS.2.1).narrow hB).moved hW.alike, ((h3.kept hS.2.1).narrow hB).moved hW.alike, h4.warm hW, h5.warm hW, h6.warm hW, h7.warm hW⟩
theorem XS_same {K V : Nat → Nat} {A : Nat → Prop} {u U : State} {H : Heap} (h : XS K V A u H) (e : u.vm = U.vm) : XS K V A U H := by
  obtain ⟨h1, h2, h3, h4, h5, h6, h7⟩ := h
  have ha : u.vm.Alike U.vm := by rw [e]; exact Vm.Alike.refl U.vm
  exact ⟨h1.moved ha, h2.moved ha, h3.moved ha, h4.same e.symm, h5.same e.symm, h6.same e.symm, h7.same e.symm⟩
def wRX (K V : Nat → Nat) (D : va_G) (C : Nat → ClassId) (w : va_W) (U : State) : Prop := wR D C w U ∧ XS K V (fun _ => False) U U.heap
theorem wRX_blind (K V : Nat → Nat) (D : va_G) (C : Nat → ClassId) (w : va_W) (av : List Value) : FrameBlind (va_Pc av (wRX K V D C w)) := fun a U g mk q => by
  obtain ⟨q0, ⟨qP, qK, qN⟩, qX⟩ := q
  exact ⟨q0, ⟨qP, va_K.moved (u := U) (U := U.calling g mk a) (Vm.Alike.refl U.vm) qK, NW_same (U := U.calling g mk a) qN rfl⟩, XS_same (U := U.calling g mk a) qX rfl⟩
/-- a method that writes nothing, over the constants: it answers o (none: void) -/
def CRX (K V : Nat → Nat) (l : Launch) (y : MethodName) (ws : List Cond) (fr lo : Nat) (D : va_G) (C : Nat → ClassId) (av : List Value) (w : va_W) (o : Option Value) : Prop := Met l y ws (rmN fr lo) (va_Pc av (wRX K V D C w)) (qR o) 0 0 (fun _ => False)
set_option maxHeartbeats 1000000 in
theorem CRX_of {K V : Nat → Nat} {l : Launch} {y : MethodName} {ws ws' : List Cond} {fr lo : Nat} {D : va_G} {C : Nat → ClassId} {av : List Value} {w : va_W} {r : Int32} {cc : ByteArray} {maxL : Nat} {ty : FieldType}
    (hy : plainName y.cls = true) (hw : ws = Cond.code y cc maxL (some ty) :: ws') (hn : (lg_sl av).length ≤ maxL) (hnr : narrow ty (.int r) = .int r)
    (body : ∀ (p : Program) (e : Env) (s : State) (m : MethodId) (below : List Frame) (meth : Method) (c : Code) (Q : State → Prop) (ls : Array Slot), p.tables.exec = Jvm.exec → c.code = cc → c.maxLocals = maxL → s.vm.findClass y.cls = some m.cls → (∀ w ∈ ws, w.before av.toArray s = true) → va_K D vwCl (ty4 C) s → NW s → XS K V (fun _ => False) s s.heap → lv_has ls maxL (lv_args 0 av) → va_P D vwCl w s.heap →
      (∀ (ls : Array Slot) (pc : Nat) (z : Int32), decode cc pc = .ok (.ireturn, 1) → z = r → W p l e (rmN fr lo) s m av.toArray below meth c s.heap [] 0 0 Q (F0 m pc ls [.int z])) →
      W p l e (rmN fr lo) s m av.toArray below meth c s.heap [] 0 0 Q (F0 m 0 ls [])) : CRX K V l y ws fr lo D C av w (some (.int r)) := by
  refine Met.ofW (cc := cc) (maxL := maxL) (ret := (some ty)) hy hw ?_
  intro p e s m args below meth c s₁ B hml hv
  obtain ⟨rfl, ⟨hP, hK, hNW⟩, hX⟩ := hv
  have hx := B.exec
  have hb := B.bytes
  have hr := B.returns
  have hts := atoms_spec (ws := ws) B.pre
  have hown : s.vm.findClass y.cls = some m.cls := findClass_of_methodNamed B.named
  have hlocks := B.notSynchronized
  have hl := lv_entry av (n := maxL) hn
  rw [lg_entry_eq]
  refine body p e s m below meth c _ _ hx hb hml hown hts hK hNW hX hl hP ?_
  intro ls pc z hd hz
  subst hz
  exact W.zret (v := z) hx hb hr hnr (fun t ht hW => ⟨rfl, ht⟩) (fun q h => by cases h) hd
set_option maxHeartbeats 1000000 in
theorem CRXV_of {K V : Nat → Nat} {l : Launch} {y : MethodName} {ws ws' : List Cond} {fr lo : Nat} {D : va_G} {C : Nat → ClassId} {av : List Value} {w : va_W} {cc : ByteArray} {maxL : Nat}
    (hy : plainName y.cls = true) (hw : ws = Cond.code y cc maxL none :: ws') (hn : (lg_sl av).length ≤ maxL)
    (body : ∀ (p : Program) (e : Env) (s : State) (m : MethodId) (below : List Frame) (meth : Method) (c : Code) (Q : State → Prop) (ls : Array Slot), p.tables.exec = Jvm.exec → c.code = cc → c.maxLocals = maxL → s.vm.findClass y.cls = some m.cls → (∀ w ∈ ws, w.before av.toArray s = true) → va_K D vwCl (ty4 C) s → NW s → XS K V (fun _ => False) s s.heap → lv_has ls maxL (lv_args 0 av) → va_P D vwCl w s.heap →
      (∀ (ls : Array Slot) (pc : Nat), decode cc pc = .ok (.return_, 1) → W p l e (rmN fr lo) s m av.toArray below meth c s.heap [] 0 0 Q (F0 m pc ls [])) →
      W p l e (rmN fr lo) s m av.toArray below meth c s.heap [] 0 0 Q (F0 m 0 ls [])) : CRX K V l y ws fr lo D C av w none := by
  refine Met.ofW (cc := cc) (maxL := maxL) (ret := none) hy hw ?_
  intro p e s m args below meth c s₁ B hml hv
  obtain ⟨rfl, ⟨hP, hK, hNW⟩, hX⟩ := hv
  have hx := B.exec
  have hb := B.bytes
  have hr := B.returns
  have hts := atoms_spec (ws := ws) B.pre
  have hown : s.vm.findClass y.cls = some m.cls := findClass_of_methodNamed B.named
  have hlocks := B.notSynchronized
  have hl := lv_entry av (n := maxL) hn
  rw [lg_entry_eq]
  refine body p e s m below meth c _ _ hx hb hml hown hts hK hNW hX hl hP ?_
  intro ls pc hd
  exact W.vret hx hb hr (fun t ht hW => ⟨rfl, ht⟩) (fun q h => by cases h) hd
/-- a method that writes, over the constants -/
def wAX (K V : Nat → Nat) (D : va_G) (C : Nat → ClassId) (w : va_W) (sz : Nat) (U : State) : Prop := wA D C w sz U ∧ XS K V (va_A w sz) U U.heap
theorem wAX_blind (K V : Nat → Nat) (D : va_G) (C : Nat → ClassId) (w : va_W) (sz : Nat) (av : List Value) : FrameBlind (va_Pc av (wAX K V D C w sz)) := fun a U g mk q => by
  obtain ⟨q0, ⟨q1, qP, qK, qD, qN⟩, qX⟩ := q
  exact ⟨q0, ⟨q1, qP, va_K.moved (u := U) (U := U.calling g mk a) (Vm.Alike.refl U.vm) qK, qD, NW_same (U := U.calling g mk a) qN rfl⟩, XS_same (U := U.calling g mk a) qX rfl⟩
def CIX (K V : Nat → Nat) {S : Type} (l : Launch) (y : MethodName) (ws : List Cond) (fr lo : Nat) (D : va_G) (C : Nat → ClassId) (av : List Value) (w : va_W) (w' : S → va_W) (post : Int32 → S → Prop) : Prop := ∀ sz : Nat, Met l y ws (rmN fr lo) (va_Pc av (wAX K V D C w sz)) (va_Qi post (wB D C w sz w') (va_A w sz)) 0 0 (va_A w sz)
set_option maxHeartbeats 1000000 in
theorem CIX_of {K V : Nat → Nat} {S : Type} {l : Launch} {y : MethodName} {ws ws' : List Cond} {fr lo : Nat} {D : va_G} {C : Nat → ClassId} {av : List Value} {w : va_W} {w' : S → va_W} {post : Int32 → S → Prop} {cc : ByteArray} {maxL : Nat}
    (hy : plainName y.cls = true) (hw : ws = Cond.code y cc maxL (some .int) :: ws') (hn : (lg_sl av).length ≤ maxL)
    (body : ∀ (p : Program) (e : Env) (s : State) (m : MethodId) (below : List Frame) (meth : Method) (c : Code) (A : Nat → Prop) (Q : State → Prop) (ls : Array Slot), p.tables.exec = Jvm.exec → c.code = cc → c.maxLocals = maxL → s.vm.findClass y.cls = some m.cls → (∀ w ∈ ws, w.before av.toArray s = true) → va_K D vwCl (ty4 C) s → NW s → XS K V A s s.heap → (∀ q, s.heap.size ≤ q → A q) → lv_has ls maxL (lv_args 0 av) → va_P D vwCl w s.heap → va_D A w → va_S A s.heap s.heap [] →
      (∀ (H : Heap) (locs : List Loc) (ls : Array Slot) (pc : Nat) (r : Int32) (u : S), decode cc pc = .ok (.ireturn, 1) → post r u → va_P D vwCl (w' u) H → va_D A (w' u) → va_S A s.heap H locs → W p l e (rmN fr lo) s m av.toArray below meth c H locs 0 0 Q (F0 m pc ls [.int r])) →
      W p l e (rmN fr lo) s m av.toArray below meth c s.heap [] 0 0 Q (F0 m 0 ls [])) : CIX K V l y ws fr lo D C av w w' post := by
  intro sz
  refine Met.ofW (cc := cc) (maxL := maxL) (ret := (some .int)) hy hw ?_
  intro p e s m args below meth c s₁ B hml hv
  obtain ⟨rfl, ⟨hsz, hP, hK, hD0, hNW⟩, hX⟩ := hv
  have hx := B.exec
  have hb := B.bytes
  have hr := B.returns
  have hts := atoms_spec (ws := ws) B.pre
  have hown : s.vm.findClass y.cls = some m.cls := findClass_of_methodNamed B.named
  have hlocks := B.notSynchronized
  subst hsz
  have hD := hD0.self (sz := s.heap.size)
  have hA : ∀ q : Nat, s.heap.size ≤ q → va_A w s.heap.size q := fun q h => Or.inr h
  have hl := lv_entry av (n := maxL) hn
  rw [lg_entry_eq]
  refine body p e s m below meth c (va_A w s.heap.size) _ _ hx hb hml hown hts hK hNW hX hA hl hP hD va_S.rf ?_
  intro H locs ls pc r u hd hp hP hD hS
  exact W.iret (v := r) hx hb hr (fun t ht hW => ⟨⟨r, u, rfl, hp, by rw [ht]; exact hP, va_K.moved hW.alike hK, hD⟩, hS.F ht⟩) hS.2.2 hd
section CX
variable {K V : Nat → Nat} {p : Program} {l : Launch} {e : Env} {R : Room} {s : State} {m : MethodId} {args : Array Value} {below : List Frame} {meth : Method} {c : Code} {H : Heap} {locs : List Loc} {cells slots : Nat} {Q : State → Prop}
variable {cc : ByteArray} {pc : Nat} {ls : Array Slot} {rest st0 : List Value} {S : Type} {y : MethodName} {wy Ts : List Cond} {fr lo n index nL maxLy : Nat} {D : va_G} {C : Nat → ClassId} {b : Nat} {As : List Value} {w wc wr : va_W} {w' wn : S → va_W} {own Cn : String} {bytes : ByteArray} {rety : Option FieldType} {A : Nat → Prop}
theorem va_callR0 {a : Array Value} (hr : va_Run p l e R s m args below meth c H locs cells slots 0 0 (F0 m pc ls st0) rest (qR none a) (fun _ => False)) (kk : W p l e R s m args below meth c H locs cells slots Q (F0 m (pc + 3) ls rest)) : W p l e R s m args below meth c H locs cells slots Q (F0 m pc ls st0) := by
  intro T hT X
  obtain ⟨v1, st₀, t, T', L, h0, X', hL, e1, e2, ⟨hv, hh⟩, st⟩ := hr T hT X
  cases hv
  have hLn : L = [] := by
    cases L with
    | nil => rfl
    | cons q L => exact absurd (hL q List.mem_cons_self) id
  subst hLn
  rw [List.append_nil] at X'
  obtain ⟨t2, a1, b1⟩ := kk T' (by rw [e1, hh, h0]) X'
  exact ⟨t2, st t2 a1, b1⟩
theorem CRX_callV {v : Value} (F : CallFix p m c cc nL s args Ts own) (hM : CRX K V l y wy fr lo D C (.ref b :: As) wc (some v)) (cw : CallW R s args own Cn index y bytes maxLy rety wy (rmN fr lo) 0 0 n) (hrc : ∃ cell : Cell, H[b]? = some cell ∧ cell.vm.isStatics = false ∧ s.vm.findClass Cn = some cell.cls) (hK : va_K D vwCl (ty4 C) s) (hNW : NW s) (hX : XS K V A s s.heap) (hS : va_S A s.heap H locs) (hPc : va_P D vwCl wc H) (hn : As.length = n) (hsize : ls.size = nL) (hst : st0 = As.reverse ++ .ref b :: rest) (hW : (rest.map fun v => v.category).sum ≤ 8) (d : decode cc pc = .ok (.invokevirtual index, 3)) (hf : cells ≤ R.cells ∧ slots ≤ R.slots)
    (k : W p l e R s m args below meth c H locs cells slots Q (F0 m (pc + 3) ls (v :: rest))) : W p l e R s m args below meth c H locs cells slots Q (F0 m pc ls st0) :=
  va_callR (va_runV (As := As) (rest := rest) F hM cw ⟨wRX_blind K V D C wc _, hrc, fun U hU hW => ⟨rfl, ⟨by rw [hU]; exact hPc, va_K.moved hW.alike hK, NW_warm hNW hW⟩, by rw [hU]; exact XS_go hX hS (fun _ h => h.elim) hW⟩⟩ rfl hn hsize hst (lv_room hW) d hf) k
theorem CRX_callS {v : Value} (F : CallFix p m c cc nL s args Ts own) (hM : CRX K V l y wy fr lo D C As wc (some v)) (cw : CallB R s args own index y bytes maxLy rety wy (rmN fr lo) 0 0 n ∧ (Cond.static y).before args s = true) (hK : va_K D vwCl (ty4 C) s) (hNW : NW s) (hX : XS K V A s s.heap) (hS : va_S A s.heap H locs) (hPc : va_P D vwCl wc H) (hn : As.length = n) (hsize : ls.size = nL) (hst : st0 = As.reverse ++ rest) (hW : (rest.map fun v => v.category).sum ≤ 8) (d : decode cc pc = .ok (.invokestatic index, 3)) (hf : cells ≤ R.cells ∧ slots ≤ R.slots)
    (k : W p l e R s m args below meth c H locs cells slots Q (F0 m (pc + 3) ls (v :: rest))) : W p l e R s m args below meth c H locs cells slots Q (F0 m pc ls st0) :=
  va_callR (va_runS (As := As) (rest := rest) F hM cw ⟨wRX_blind K V D C wc _, fun U hU hW => ⟨rfl, ⟨by rw [hU]; exact hPc, va_K.moved hW.alike hK, NW_warm hNW hW⟩, by rw [hU]; exact XS_go hX hS (fun _ h => h.elim) hW⟩⟩ rfl hn hsize hst (lv_room hW) d hf) k
theorem CRX_callS0 (F : CallFix p m c cc nL s args Ts own) (hM : CRX K V l y wy fr lo D C As wc none) (cw : CallB R s args own index y bytes maxLy rety wy (rmN fr lo) 0 0 n ∧ (Cond.static y).before args s = true) (hK : va_K D vwCl (ty4 C) s) (hNW : NW s) (hX : XS K V A s s.heap) (hS : va_S A s.heap H locs) (hPc : va_P D vwCl wc H) (hn : As.length = n) (hsize : ls.size = nL) (hst : st0 = As.reverse ++ rest) (hW : (rest.map fun v => v.category).sum ≤ 8) (d : decode cc pc = .ok (.invokestatic index, 3)) (hf : cells ≤ R.cells ∧ slots ≤ R.slots)
    (k : W p l e R s m args below meth c H locs cells slots Q (F0 m (pc + 3) ls rest)) : W p l e R s m args below meth c H locs cells slots Q (F0 m pc ls st0) :=
  va_callR0 (va_runS (As := As) (rest := rest) F hM cw ⟨wRX_blind K V D C wc _, fun U hU hW => ⟨rfl, ⟨by rw [hU]; exact hPc, va_K.moved hW.alike hK, NW_warm hNW hW⟩, by rw [hU]; exact XS_go hX hS (fun _ h => h.elim) hW⟩⟩ rfl hn hsize hst (lv_room hW) d hf) k
theorem CIX_callV0 {post : Int32 → S → Prop} {q0 ci : Nat} {fs : List Value} {q : vw_C} (F : CallFix p m c cc nL s args Ts own) (hM : CIX K V l y wy fr lo D C (.ref b :: As) wc w' post) (cw : CallW R s args own Cn index y bytes maxLy rety wy (rmN fr lo) 0 0 n) (he : wc[q0]? = some (b, .inr (ci, fs))) (hcl : vwCl[ci]? = some q) (hCn : q.1 = Cn) (hK : va_K D vwCl (ty4 C) s) (hNW : NW s) (hX : XS K V A s s.heap) (hPc : va_P D vwCl wc H) (hDc : va_D A wc) (hS : va_S A s.heap H locs) (hA : ∀ q, s.heap.size ≤ q → A q)
    (hn : As.length = n) (hsize : ls.size = nL) (hst : st0 = As.reverse ++ .ref b :: rest) (hW : (rest.map fun v => v.category).sum ≤ 8) (d : decode cc pc = .ok (.invokevirtual index, 3)) (hf : cells ≤ R.cells ∧ slots ≤ R.slots)
    (k : ∀ (r : Int32) (u : S) (H1 : Heap) (locs1 : List Loc), post r u → va_P D vwCl (w' u) H1 → va_D A (w' u) → va_S A s.heap H1 locs1 → W p l e R s m args below meth c H1 locs1 cells slots Q (F0 m (pc + 3) ls (.int r :: rest))) : W p l e R s m args below meth c H locs cells slots Q (F0 m pc ls st0) := by
  have hFc : ∀ q, va_A wc H.size q → A q := va_A_in hDc hS hA
  refine va_calli (va_runV (As := As) (rest := rest) F (hM H.size) cw ⟨wAX_blind K V D C wc H.size _, by have hv := va_recv hK hPc hcl he; rw [hCn] at hv; exact hv, fun U hU hW => ⟨rfl, ⟨by rw [hU], by rw [hU]; exact hPc, va_K.moved hW.alike hK, hDc.weaken (fun _ _ _ _ => trivial), NW_warm hNW hW⟩, by rw [hU]; exact XS_go hX hS hFc hW⟩⟩ rfl hn hsize hst (lv_room hW) d hf) hS (fun q _ h => hFc q h) hFc (fun r u t H1 locs1 ht hvm hw hB hz1 hk1 hS1 => ?_)
  obtain ⟨hP1, hK1, hD1⟩ := hB
  rw [ht] at hP1
  exact k r u H1 locs1 hw hP1 (hD1.weaken (fun _ _ _ h => hFc _ h)) hS1
theorem CIX_callVp {post : Int32 → S → Prop} {q0 ci : Nat} {fs : List Value} {q : vw_C} (F : CallFix p m c cc nL s args Ts own) (hM : CIX K V l y wy fr lo D C (.ref b :: As) wc w' post) (cw : CallW R s args own Cn index y bytes maxLy rety wy (rmN fr lo) 0 0 n) (he : wc[q0]? = some (b, .inr (ci, fs))) (hcl : vwCl[ci]? = some q) (hCn : q.1 = Cn) (hK : va_K D vwCl (ty4 C) s) (hNW : NW s) (hX : XS K V A s s.heap) (hP : va_P D vwCl w H) (hD : va_D A w) (hS : va_S A s.heap H locs) (hA : ∀ q, s.heap.size ≤ q → A q)
    (hp1 : w.Perm (wc ++ wr)) (hp2 : ∀ u, (w' u ++ wr).Perm (wn u)) (hn : As.length = n) (hsize : ls.size = nL) (hst : st0 = As.reverse ++ .ref b :: rest) (hW : (rest.map fun v => v.category).sum ≤ 8) (d : decode cc pc = .ok (.invokevirtual index, 3)) (hf : cells ≤ R.cells ∧ slots ≤ R.slots)
    (k : ∀ (r : Int32) (u : S) (H1 : Heap) (locs1 : List Loc), post r u → va_P D vwCl (wn u) H1 → va_D A (wn u) → va_S A s.heap H1 locs1 → W p l e R s m args below meth c H1 locs1 cells slots Q (F0 m (pc + 3) ls (.int r :: rest))) : W p l e R s m args below meth c H locs cells slots Q (F0 m pc ls st0) := by
  have hP' := va_P_perm hp1 hP
  have hD' := va_D_perm hp1 hD
  have hPc : va_P D vwCl wc H := va_P_left hP'
  have hDc : va_D A wc := va_D_left hD'
  have hFc : ∀ q, va_A wc H.size q → A q := va_A_in hDc hS hA
  refine va_calli (va_runV (As := As) (rest := rest) F (hM H.size) cw ⟨wAX_blind K V D C wc H.size _, by have hv := va_recv hK hPc hcl he; rw [hCn] at hv; exact hv, fun U hU hW => ⟨rfl, ⟨by rw [hU], by rw [hU]; exact hPc, va_K.moved hW.alike hK, hDc.weaken (fun _ _ _ _ => trivial), NW_warm hNW hW⟩, by rw [hU]; exact XS_go hX hS hFc hW⟩⟩ rfl hn hsize hst (lv_room hW) d hf) hS (fun q _ h => hFc q h) hFc (fun r u t H1 locs1 ht hvm hw hB hz1 hk1 hS1 => ?_)
  obtain ⟨hP1, hK1, hD1⟩ := hB
  rw [ht] at hP1
  obtain ⟨hP2, hD2⟩ := va_beside hP' hD' hk1 hFc hP1 hD1
  exact k r u H1 locs1 hw (va_P_perm (hp2 u) hP2) (va_D_perm (hp2 u) hD2) hS1
end CX
/-! the JDK's own methods over a constant -/
theorem nat_iI (n : Nat) : Int32.ofNat n = iI (n : Int) := Int32.ofInt_eq_ofNat.symm
set_option maxHeartbeats 1000000 in
theorem c_J3_checkIndex {l : Launch} {D : va_G} {C : Nat → ClassId} {w : va_W} {i n : Int} {f : Nat} (h : 0 ≤ i ∧ i < n) (hn : n < 1000) : CR l yJ3_checkIndex_8e157 wsJ3_checkIndex_8e157 0 0 D C [.int (iI i), .int (iI n), .ref f] w (.int (iI i)) := by
  refine CR_of (cc := cJ3_checkIndex_8e157) (maxL := 3) (by decide) rfl (Nat.le_of_ble_eq_true rfl) ?_
  intro p e s m below meth c Q ls hx hb hml hown hts hK hNW hl hP hret
  have hl : lv_has ls 3 [(0, .int (iI i)), (1, .int (iI n)), (2, .ref f)] := hl
  refine lv_iload_n hx hb dJ3_checkIndex_8e157_0 rfl (lv_at hl 0 rfl) ?_
  refine j_if_lt (tgt := 9) hx hb dJ3_checkIndex_8e157_1 rfl ⟨by omega, by omega⟩ (fun c1 => absurd c1 (by omega)) (fun c1 => ?_)
  refine lv_iload_n hx hb dJ3_checkIndex_8e157_4 rfl (lv_at hl 0 rfl) ?_
  refine lv_iload_n hx hb dJ3_checkIndex_8e157_5 rfl (lv_at hl 1 rfl) ?_
  refine j_icmp_lt (tgt := 16) hx hb dJ3_checkIndex_8e157_6 rfl ⟨by omega, by omega⟩ ⟨by omega, by omega⟩ (fun c6 => ?_) (fun c6 => absurd h.2 c6)
  refine lv_iload_n hx hb dJ3_checkIndex_8e157_16 rfl (lv_at hl 0 rfl) ?_
  exact hret ls 17 _ dJ3_checkIndex_8e157_17 rfl
set_option maxHeartbeats 1000000 in
theorem c_J3_checkIndexN {l : Launch} {D : va_G} {C : Nat → ClassId} {w : va_W} {i n : Int} (h : 0 ≤ i ∧ i < n) (hn : n < 1000) : CR l yJ3_checkIndex_8e157 wsJ3_checkIndex_8e157 0 0 D C [.int (iI i), .int (iI n), .null] w (.int (iI i)) := by
  refine CR_of (cc := cJ3_checkIndex_8e157) (maxL := 3) (by decide) rfl (Nat.le_of_ble_eq_true rfl) ?_
  intro p e s m below meth c Q ls hx hb hml hown hts hK hNW hl hP hret
  have hl : lv_has ls 3 [(0, .int (iI i)), (1, .int (iI n)), (2, .null)] := hl
  refine lv_iload_n hx hb dJ3_checkIndex_8e157_0 rfl (lv_at hl 0 rfl) ?_
  refine j_if_lt (tgt := 9) hx hb dJ3_checkIndex_8e157_1 rfl ⟨by omega, by omega⟩ (fun c1 => absurd c1 (by omega)) (fun c1 => ?_)
  refine lv_iload_n hx hb dJ3_checkIndex_8e157_4 rfl (lv_at hl 0 rfl) ?_
  refine lv_iload_n hx hb dJ3_checkIndex_8e157_5 rfl (lv_at hl 1 rfl) ?_
  refine j_icmp_lt (tgt := 16) hx hb dJ3_checkIndex_8e157_6 rfl ⟨by omega, by omega⟩ ⟨by omega, by omega⟩ (fun c6 => ?_) (fun c6 => absurd h.2 c6)
  refine lv_iload_n hx hb dJ3_checkIndex_8e157_16 rfl (lv_at hl 0 rfl) ?_
  exact hret ls 17 _ dJ3_checkIndex_8e157_17 rfl
set_option maxHeartbeats 1000000 in
theorem c_J0_checkIndex {K V : Nat → Nat} {l : Launch} {D : va_G} {C : Nat → ClassId} {w : va_W} {i n : Int} (h : 0 ≤ i ∧ i < n) (hn : n < 1000) : CRX K V l yJ0_checkIndex_df160 wsJ0_checkIndex_df160 1 22 D C [.int (iI i), .int (iI n)] w none := by
  refine CRXV_of (cc := cJ0_checkIndex_df160) (maxL := 2) (by decide) rfl (Nat.le_of_ble_eq_true rfl) ?_
  intro p e s m below meth c Q ls hx hb hml hown hts hK hNW hX hl hP hret
  have hl : lv_has ls 2 [(0, .int (iI i)), (1, .int (iI n))] := hl
  rcases hX.2.2.1 with hf | ⟨f, hf⟩
  · refine lv_iload_n hx hb dJ0_checkIndex_df160_0 rfl (lv_at hl 0 rfl) ?_
    refine lv_iload_n hx hb dJ0_checkIndex_df160_1 rfl (lv_at hl 1 rfl) ?_
    refine va_gets hx hb hf va_S.rf hown (hts (.fieldLink RJ0 1053 "jdk/internal/util/Preconditions" "SIOOBE_FORMATTER" "Ljava/util/function/BiFunction;") (by decide +kernel)) (fun _ h9 => h9) dJ0_checkIndex_df160_2 ?_
    refine CR_callS (As := [.int (iI i), .int (iI n), .null]) (rest := []) ⟨hx, hb, hml, hown, hts⟩ (c_J3_checkIndexN h hn) (va_cwS 3 hts gJ0_checkIndex_df160_J3_checkIndex_8e157 rfl rfl rfl (by decide +kernel) ⟨Nat.le_of_ble_eq_true rfl, Nat.le_of_ble_eq_true rfl⟩) hK hNW hP rfl hl.1 rfl (Nat.le_of_ble_eq_true rfl) dJ0_checkIndex_df160_5 ⟨Nat.zero_le _, Nat.zero_le _⟩ ?_
    refine lv_pop hx hb dJ0_checkIndex_df160_8 rfl ?_
    exact hret ls 9 dJ0_checkIndex_df160_9
  · refine lv_iload_n hx hb dJ0_checkIndex_df160_0 rfl (lv_at hl 0 rfl) ?_
    refine lv_iload_n hx hb dJ0_checkIndex_df160_1 rfl (lv_at hl 1 rfl) ?_
    refine va_gets hx hb hf va_S.rf hown (hts (.fieldLink RJ0 1053 "jdk/internal/util/Preconditions" "SIOOBE_FORMATTER" "Ljava/util/function/BiFunction;") (by decide +kernel)) (fun _ h9 => h9) dJ0_checkIndex_df160_2 ?_
    refine CR_callS (As := [.int (iI i), .int (iI n), .ref f]) (rest := []) ⟨hx, hb, hml, hown, hts⟩ (c_J3_checkIndex h hn) (va_cwS 3 hts gJ0_checkIndex_df160_J3_checkIndex_8e157 rfl rfl rfl (by decide +kernel) ⟨Nat.le_of_ble_eq_true rfl, Nat.le_of_ble_eq_true rfl⟩) hK hNW hP rfl hl.1 rfl (Nat.le_of_ble_eq_true rfl) dJ0_checkIndex_df160_5 ⟨Nat.zero_le _, Nat.zero_le _⟩ ?_
    refine lv_pop hx hb dJ0_checkIndex_df160_8 rfl ?_
    exact hret ls 9 dJ0_checkIndex_df160_9
def stN (i : Nat) : Int := ((stL.getD i 0 : Nat) : Int)
def stC (i : Nat) (k : Int) : Int32 := (stB.getD i []).getD k.toNat 0
theorem stC_c : ∀ i, i < 4 → ∀ k, k < 5 → ((((stB.getD i []).getD k 0) &&& iI 255).toUInt32 % 65536).toInt32 = (stB.getD i []).getD k 0 := by decide +kernel
theorem stC_n : ∀ i, i < 4 → ∀ k, k < 5 → narrow .char (.int ((stB.getD i []).getD k 0)) = .int ((stB.getD i []).getD k 0) := by decide +kernel
theorem stN_r : ∀ i, i < 4 → (4 : Int) ≤ stN i ∧ stN i ≤ 5 := by decide +kernel
set_option maxHeartbeats 1000000 in
theorem c_J1_charAt {K V : Nat → Nat} {l : Launch} {D : va_G} {C : Nat → ClassId} {w : va_W} {i : Nat} (hi : i < 4) {k : Int} (h : 0 ≤ k ∧ k < stN i) : CRX K V l yJ1_charAt_3b067 wsJ1_charAt_3b067 2 43 D C [.ref (V i), .int (iI k)] w (some (.int (stC i k))) := by
  have r := stN_r i hi
  refine CRX_of (cc := cJ1_charAt_3b067) (maxL := 2) (by decide) rfl (Nat.le_of_ble_eq_true rfl) (stC_n i hi k.toNat (by omega)) ?_
  intro p e s m below meth c Q ls hx hb hml hown hts hK hNW hX hl hP hret
  have hl : lv_has ls 2 [(0, .ref (V i)), (1, .int (iI k))] := hl
  have hT := (hX.1.1 i hi).2.2.2
  refine lv_iload_n hx hb dJ1_charAt_3b067_0 rfl (lv_at hl 1 rfl) ?_
  refine lv_aload_n hx hb dJ1_charAt_3b067_1 rfl (lv_at hl 0 rfl) ?_
  refine va_tlen hx hb hT va_S.rf (v := iI (stN i)) (nat_iI _) dJ1_charAt_3b067_2 ?_
  refine CRX_callS0 (As := [.int (iI k), .int (iI (stN i))]) (rest := []) ⟨hx, hb, hml, hown, hts⟩ (c_J0_checkIndex h (by omega)) (va_cwS 2 hts gJ1_charAt_3b067_J0_checkIndex_df160 rfl rfl rfl (by decide +kernel) ⟨Nat.le_of_ble_eq_true rfl, Nat.le_of_ble_eq_true rfl⟩) hK hNW hX va_S.rf hP rfl hl.1 rfl (Nat.le_of_ble_eq_true rfl) dJ1_charAt_3b067_3 ⟨Nat.zero_le _, Nat.zero_le _⟩ ?_
  refine lv_aload_n hx hb dJ1_charAt_3b067_6 rfl (lv_at hl 0 rfl) ?_
  refine lv_iload_n hx hb dJ1_charAt_3b067_7 rfl (lv_at hl 1 rfl) ?_
  refine va_tb hx hb hT va_S.rf (iI_in h.1 h.2 (by omega)) (v := .int (stC i k)) (by rw [iI_cl h.1 (by omega)]; rfl) dJ1_charAt_3b067_8 ?_
  refine lv_sipush (v := iI (255)) hx hb dJ1_charAt_3b067_9 (by decide) ?_
  refine lv_iand hx hb dJ1_charAt_3b067_12 ?_
  refine lv_i2c (v := stC i k) hx hb dJ1_charAt_3b067_13 (stC_c i hi k.toNat (by omega)) ?_
  exact hret ls 14 _ dJ1_charAt_3b067_14 rfl
set_option maxHeartbeats 1000000 in
theorem c_J0_coder {K V : Nat → Nat} {l : Launch} {D : va_G} {C : Nat → ClassId} {w : va_W} {i : Nat} (hi : i < 4) : CRX K V l yJ0_coder_7d493 wsJ0_coder_7d493 0 0 D C [.ref (K i)] w (some (.int 0)) := by
  refine CRX_of (cc := cJ0_coder_7d493) (maxL := 1) (by decide) rfl (Nat.le_of_ble_eq_true rfl) rfl ?_
  intro p e s m below meth c Q ls hx hb hml hown hts hK hNW hX hl hP hret
  have hl : lv_has ls 1 [(0, .ref (K i))] := hl
  refine va_gets hx hb hX.2.1 va_S.rf hown (hts (.fieldLink RJ0 38 "java/lang/String" "COMPACT_STRINGS" "Z") (by decide +kernel)) (fun _ h9 => h9) dJ0_coder_7d493_0 ?_
  refine lv_if_eq (tgt := 13) hx hb dJ0_coder_7d493_3 rfl (fun h => absurd h (by decide)) (fun _ => ?_)
  refine lv_aload_n hx hb dJ0_coder_7d493_6 rfl (lv_at hl 0 rfl) ?_
  refine vk_getf hx hb (hX.1.1 i hi).2.1 va_S.rf hown (hts (.fieldLink RJ0 15 "java/lang/String" "coder" "B") (by decide +kernel)) (fun _ h9 => h9) dJ0_coder_7d493_7 ?_
  refine lv_goto (tgt := 14) hx hb dJ0_coder_7d493_10 rfl ?_
  exact hret ls 14 _ dJ0_coder_7d493_14 rfl
set_option maxHeartbeats 1000000 in
theorem c_J0_isLatin1 {K V : Nat → Nat} {l : Launch} {D : va_G} {C : Nat → ClassId} {w : va_W} {i : Nat} (hi : i < 4) : CRX K V l yJ0_isLatin1_aae02 wsJ0_isLatin1_aae02 0 0 D C [.ref (K i)] w (some (.int 1)) := by
  refine CRX_of (cc := cJ0_isLatin1_aae02) (maxL := 1) (by decide) rfl (Nat.le_of_ble_eq_true rfl) rfl ?_
  intro p e s m below meth c Q ls hx hb hml hown hts hK hNW hX hl hP hret
  have hl : lv_has ls 1 [(0, .ref (K i))] := hl
  refine va_gets hx hb hX.2.1 va_S.rf hown (hts (.fieldLink RJ0 38 "java/lang/String" "COMPACT_STRINGS" "Z") (by decide +kernel)) (fun _ h9 => h9) dJ0_isLatin1_aae02_0 ?_
  refine lv_if_eq (tgt := 17) hx hb dJ0_isLatin1_aae02_3 rfl (fun h => absurd h (by decide)) (fun _ => ?_)
  refine lv_aload_n hx hb dJ0_isLatin1_aae02_6 rfl (lv_at hl 0 rfl) ?_
  refine vk_getf hx hb (hX.1.1 i hi).2.1 va_S.rf hown (hts (.fieldLink RJ0 15 "java/lang/String" "coder" "B") (by decide +kernel)) (fun _ h9 => h9) dJ0_isLatin1_aae02_7 ?_
  refine lv_if_ne (tgt := 17) hx hb dJ0_isLatin1_aae02_10 rfl (fun h => absurd rfl h) (fun _ => ?_)
  refine lv_iconst (v := 1) hx hb dJ0_isLatin1_aae02_13 rfl ?_
  refine lv_goto (tgt := 18) hx hb dJ0_isLatin1_aae02_14 rfl ?_
  exact hret ls 18 _ dJ0_isLatin1_aae02_18 rfl
theorem st_recv {K V : Nat → Nat} {A : Nat → Prop} {s : State} {H : Heap} {locs : List Loc} (hX : XS K V A s s.heap) {i : Nat} (hi : i < 4) (hS : va_S A s.heap H locs) : ∃ cell : Cell, H[K i]? = some cell ∧ cell.vm.isStatics = false ∧ s.vm.findClass RJ0 = some cell.cls := vk_recv hX.1 hi hS
set_option maxHeartbeats 1000000 in
theorem c_J0_length {K V : Nat → Nat} {l : Launch} {D : va_G} {C : Nat → ClassId} {w : va_W} {i : Nat} (hi : i < 4) : CRX K V l yJ0_length_8abf5 wsJ0_length_8abf5 1 20 D C [.ref (K i)] w (some (.int (iI (stN i)))) := by
  refine CRX_of (cc := cJ0_length_8abf5) (maxL := 1) (by decide) rfl (Nat.le_of_ble_eq_true rfl) rfl ?_
  intro p e s m below meth c Q ls hx hb hml hown hts hK hNW hX hl hP hret
  have hl : lv_has ls 1 [(0, .ref (K i))] := hl
  refine lv_aload_n hx hb dJ0_length_8abf5_0 rfl (lv_at hl 0 rfl) ?_
  refine vk_getf hx hb (hX.1.1 i hi).2.2.1 va_S.rf hown (hts (.fieldLink RJ0 9 "java/lang/String" "value" "[B") (by decide +kernel)) (fun _ h9 => h9) dJ0_length_8abf5_1 ?_
  refine va_tlen hx hb (hX.1.1 i hi).2.2.2 va_S.rf (v := iI (stN i)) (nat_iI _) dJ0_length_8abf5_4 ?_
  refine lv_aload_n hx hb dJ0_length_8abf5_5 rfl (lv_at hl 0 rfl) ?_
  refine CRX_callV (As := []) (rest := [.int (iI (stN i))]) ⟨hx, hb, hml, hown, hts⟩ (c_J0_coder hi) (cwV 0 hts gJ0_length_8abf5_J0_coder_7d493 rfl rfl rfl (by decide +kernel) ⟨Nat.le_of_ble_eq_true rfl, Nat.le_of_ble_eq_true rfl⟩) (st_recv hX hi va_S.rf) hK hNW hX va_S.rf hP rfl hl.1 rfl (Nat.le_of_ble_eq_true rfl) dJ0_length_8abf5_6 ⟨Nat.zero_le _, Nat.zero_le _⟩ ?_
  refine lv_ishr hx hb dJ0_length_8abf5_9 ?_
  exact hret ls 10 _ dJ0_length_8abf5_10 ((show ∀ i, i < 4 → (iI (stN i) >>> ((0 : Int32) &&& 31)) = iI (stN i) by decide +kernel) i hi)
set_option maxHeartbeats 1000000 in
theorem c_J0_charAt {K V : Nat → Nat} {l : Launch} {D : va_G} {C : Nat → ClassId} {w : va_W} {i : Nat} (hi : i < 4) {k : Int} (h : 0 ≤ k ∧ k < stN i) : CRX K V l yJ0_charAt_5068e wsJ0_charAt_5068e 3 64 D C [.ref (K i), .int (iI k)] w (some (.int (stC i k))) := by
  have r := stN_r i hi
  refine CRX_of (cc := cJ0_charAt_5068e) (maxL := 2) (by decide) rfl (Nat.le_of_ble_eq_true rfl) (stC_n i hi k.toNat (by omega)) ?_
  intro p e s m below meth c Q ls hx hb hml hown hts hK hNW hX hl hP hret
  have hl : lv_has ls 2 [(0, .ref (K i)), (1, .int (iI k))] := hl
  refine lv_aload_n hx hb dJ0_charAt_5068e_0 rfl (lv_at hl 0 rfl) ?_
  refine CRX_callV (As := []) (rest := []) ⟨hx, hb, hml, hown, hts⟩ (c_J0_isLatin1 hi) (cwV 0 hts gJ0_charAt_5068e_J0_isLatin1_aae02 rfl rfl rfl (by decide +kernel) ⟨Nat.le_of_ble_eq_true rfl, Nat.le_of_ble_eq_true rfl⟩) (st_recv hX hi va_S.rf) hK hNW hX va_S.rf hP rfl hl.1 rfl (Nat.le_of_ble_eq_true rfl) dJ0_charAt_5068e_1 ⟨Nat.zero_le _, Nat.zero_le _⟩ ?_
  refine lv_if_eq (tgt := 16) hx hb dJ0_charAt_5068e_4 rfl (fun h => absurd h (by decide)) (fun _ => ?_)
  refine lv_aload_n hx hb dJ0_charAt_5068e_7 rfl (lv_at hl 0 rfl) ?_
  refine vk_getf hx hb (hX.1.1 i hi).2.2.1 va_S.rf hown (hts (.fieldLink RJ0 9 "java/lang/String" "value" "[B") (by decide +kernel)) (fun _ h9 => h9) dJ0_charAt_5068e_8 ?_
  refine lv_iload_n hx hb dJ0_charAt_5068e_11 rfl (lv_at hl 1 rfl) ?_
  refine CRX_callS (As := [.ref (V i), .int (iI k)]) (rest := []) ⟨hx, hb, hml, hown, hts⟩ (c_J1_charAt hi h) (va_cwS 2 hts gJ0_charAt_5068e_J1_charAt_3b067 rfl rfl rfl (by decide +kernel) ⟨Nat.le_of_ble_eq_true rfl, Nat.le_of_ble_eq_true rfl⟩) hK hNW hX va_S.rf hP rfl hl.1 rfl (Nat.le_of_ble_eq_true rfl) dJ0_charAt_5068e_12 ⟨Nat.zero_le _, Nat.zero_le _⟩ ?_
  exact hret ls 15 _ dJ0_charAt_5068e_15 rfl
