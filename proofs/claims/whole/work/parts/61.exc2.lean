/-! what throws: the class's shift and pause -/
abbrev NSE : String := "java/util/NoSuchElementException"
abbrev NSL : List String := ["java/lang/RuntimeException", "java/lang/Exception"]
def EX (SA : Nat → Nat) (A : Nat → Prop) (U : State) (H : Heap) : Prop := vx_Zq Bundle.tN "UNASSIGNED_STACK" Bundle.steD A U H ∧ vx_Zq Bundle.tN "SUPPRESSED_SENTINEL" Bundle.listD A U H ∧ (vk_R RX6 122 "no such shift" (SA 0) U ∧ vk_R RX6 143 "no such fact of a shift" (SA 1) U ∧ vk_R RX6 148 "no such pause" (SA 2) U ∧ vk_R RX6 165 "no such fact of a pause" (SA 3) U) ∧ va_Nw (.declares (Bundle.initS "java/lang/RuntimeException")) U ∧ va_Nw (.declares (Bundle.initS "java/lang/Exception")) U ∧ va_Nw (.declares (Bundle.initS Bundle.tN)) U ∧ va_Nw (.castable NSE NSE) U
theorem dec_warm {x : MethodName} {s U : State} (hW : s.WarmedH U.vm) (h : va_Nw (.declares x) s) : va_Nw (.declares x) U := va_tabs rfl (rfl : (s.setVm U.vm).vm = U.vm) (by rw [Cond.declares_setVm hW.alike]; exact h)
theorem EX_go {SA : Nat → Nat} {A B : Nat → Prop} {s U : State} {H : Heap} {locs : List Loc} (h : EX SA A s s.heap) (hS : va_S A s.heap H locs) (hB : ∀ q, B q → A q) (hW : s.WarmedH U.vm) : EX SA B U H := by
  obtain ⟨h1, h2, ⟨h4, h5, h6, h7⟩, h8, h9, h10, h11⟩ := h
  exact ⟨((h1.kept hS.2.1).narrow hB).moved hW.alike, ((h2.kept hS.2.1).narrow hB).moved hW.alike, ⟨h4.warm hW, h5.warm hW, h6.warm hW, h7.warm hW⟩, dec_warm hW h8, dec_warm hW h9, dec_warm hW h10, h11.warmC hW⟩
theorem EX_same {SA : Nat → Nat} {A : Nat → Prop} {u U : State} {H : Heap} (h : EX SA A u H) (e : u.vm = U.vm) : EX SA A U H := by
  obtain ⟨h1, h2, ⟨h4, h5, h6, h7⟩, h8, h9, h10, h11⟩ := h
  have ha : u.vm.Alike U.vm := by rw [e]; exact Vm.Alike.refl U.vm
  exact ⟨h1.moved ha, h2.moved ha, ⟨h4.same e.symm, h5.same e.symm, h6.same e.symm, h7.same e.symm⟩, va_tabs rfl e h8, va_tabs rfl e h9, va_tabs rfl e h10, va_tabs rfl e h11⟩
def wRE (SA : Nat → Nat) (D : va_G) (C : Nat → ClassId) (w : va_W) (sz : Nat) (U : State) : Prop := U.heap.size = sz ∧ wR D C w U ∧ EX SA (fun _ => False) U U.heap
theorem wRE_blind (SA : Nat → Nat) (D : va_G) (C : Nat → ClassId) (w : va_W) (sz : Nat) (av : List Value) : FrameBlind (va_Pc av (wRE SA D C w sz)) := fun a U g mk q => by
  obtain ⟨q0, q1, ⟨qP, qK, qN⟩, qX⟩ := q
  exact ⟨q0, q1, ⟨qP, va_K.moved (u := U) (U := U.calling g mk a) (Vm.Alike.refl U.vm) qK, NW_same (U := U.calling g mk a) qN rfl⟩, EX_same (U := U.calling g mk a) qX rfl⟩
/-- a method that writes nothing: it answers o, or throws where o is none -/
def CX (SA : Nat → Nat) (l : Launch) (y : MethodName) (ws : List Cond) (fr lo : Nat) (D : va_G) (C : Nat → ClassId) (av : List Value) (w : va_W) (o : Option Int) : Prop :=
  ∀ sz : Nat, vx_Met l y ws (rmC fr lo 1 6) (va_Pc av (wRE SA D C w sz)) (va_Qi (fun r (_ : Unit) => ∃ z, o = some z ∧ r = iI z) (fun _ _ => True) (fun q => sz ≤ q)) (vx_X (fun _ : Unit => o = none) (fun E _ _ => E = NSE) (fun q => sz ≤ q)) 1 6 (fun _ => False)
set_option maxHeartbeats 1000000 in
theorem CX_of {SA : Nat → Nat} {l : Launch} (hl0 : l.stackTraces = false) {y : MethodName} {ws ws' : List Cond} {fr lo : Nat} {D : va_G} {C : Nat → ClassId} {av : List Value} {w : va_W} {o : Option Int} {cc : ByteArray} {maxL : Nat}
    (hy : plainName y.cls = true) (hw : ws = Cond.code y cc maxL (some .int) :: ws') (hn : (lg_sl av).length ≤ maxL) (hc6 : y.cls = RX6) (hfr : 5 < fr) (hlo : 82 ≤ lo)
    (hin : ∀ w ∈ (vx_atS RX6 124 NSE NSL).filter goodWord, w ∈ ws) (hin2 : Cond.classLink RX6 120 NSE ∈ ws) (hin3 : Cond.initialized NSE ∈ ws)
    (body : ∀ (p : Program) (e : Env) (s : State) (m : MethodId) (below : List Frame) (meth : Method) (c : Code) (Q : State → Prop) (ls : Array Slot), p.tables.exec = Jvm.exec → c.code = cc → c.maxLocals = maxL → s.vm.findClass y.cls = some m.cls → (∀ w ∈ ws, w.before av.toArray s = true) → va_K D vwCl (ty4 C) s → NW s → EX SA (fun _ => False) s s.heap → lv_has ls maxL (lv_args 0 av) → va_P D vwCl w s.heap →
      (∀ (ls : Array Slot) (pc : Nat) (z : Int), decode cc pc = .ok (.ireturn, 1) → o = some z → W p l e (rmC fr lo 1 6) s m av.toArray below meth c s.heap [] 0 0 Q (F0 m pc ls [.int (iI z)])) →
      (∀ (ls : Array Slot) (pc is sa : Nat) (tx : String), vk_R RX6 is tx sa s → ls.size = maxL → decode cc pc = .ok (.new 120, 3) → decode cc (pc + 3) = .ok (.dup, 1) → decode cc (pc + 4) = .ok (.ldc is, 2) → decode cc (pc + 6) = .ok (.invokespecial 124, 3) → decode cc (pc + 9) = .ok (.athrow, 1) → o = none → W p l e (rmC fr lo 1 6) s m av.toArray below meth c s.heap [] 0 0 Q (F0 m pc ls [])) →
      W p l e (rmC fr lo 1 6) s m av.toArray below meth c s.heap [] 0 0 Q (F0 m 0 ls [])) : CX SA l y ws fr lo D C av w o := by
  intro sz
  refine vx_ofW (cc := cc) (maxL := maxL) (ret := some .int) hy hw ?_
  intro p e s m args below meth c s₁ B hml htab hv
  obtain ⟨rfl, hsz, ⟨hP, hK, hNW⟩, hE⟩ := hv
  have hx := B.exec
  have hb := B.bytes
  have hr := B.returns
  have hts := atoms_spec (ws := ws) B.pre
  have hown : s.vm.findClass y.cls = some m.cls := findClass_of_methodNamed B.named
  have hlocks := B.notSynchronized
  subst hsz
  have hl := lv_entry av (n := maxL) hn
  rw [lg_entry_eq]
  refine body p e s m below meth c _ _ hx hb hml hown hts hK hNW hE hl hP ?_ ?_
  · intro ls pc z hd ho
    refine vx_ret (W.widen (k := 1) (n := 6) (Nat.zero_le _) (Nat.zero_le _) ?_)
    exact W.iret (v := iI z) hx hb hr (fun t ht hW => ⟨⟨iI z, (), rfl, ⟨z, ho, rfl⟩, trivial⟩, by rw [ht]; exact Nat.le_refl _, fun q _ _ => by rw [ht]⟩) (fun q h => by cases h) hd
  · intro ls pc is sa tx hR hsz d0 d3 d4 d6 d9 ho
    have hown6 : s.vm.findClass RX6 = some m.cls := by rw [← hc6]; exact hown
    refine vx_throwS (A := fun _ => False) (own := RX6) (cls := NSE) (names := NSL) (ik := 120) (is := is) (ic := 124) (text := tx) (sa := sa) hx hb hl0 hown6 (by decide) (by decide) (hts _ hin2) (hts _ hin3) hR (vx_hat (B := [.declares (Bundle.initS "java/lang/RuntimeException"), .declares (Bundle.initS "java/lang/Exception"), .declares (Bundle.initS Bundle.tN), .castable NSE NSE]) (fun w hw => hts w (hin w hw)) (by decide +kernel) (vx_c (va_Nw.use rfl hE.2.2.2.1) (vx_c (va_Nw.use rfl hE.2.2.2.2.1) (vx_c (va_Nw.use rfl hE.2.2.2.2.2.1) (vx_c (va_Nw.use rfl hE.2.2.2.2.2.2) vx_n))))) (by decide +kernel) hE.1 hE.2.1 va_S.rf (by rw [hml]; exact hsz) d0 d3 d4 d6 d9 (fun x hx => (htab x hx).elim) hfr (by show 0 + _ ≤ lo; exact hlo) (Nat.le_refl _) (Nat.le_refl _) hlocks ?_ (fun z h => by cases h) (Nat.le_refl _) (Nat.le_refl _)
    exact fun t ha hz hq => ⟨(), ho, rfl, hz, fun q h1 _ => hq q h1⟩
