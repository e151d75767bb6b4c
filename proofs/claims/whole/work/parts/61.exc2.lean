/-! what throws: the class's shift and pause -/
abbrev NSE : String := "java/util/NoSuchElementException"
def EX (SA : Nat → Nat) (A : Nat → Prop) (U : State) (H : Heap) : Prop := vx_Zq Bundle.tN "UNASSIGNED_STACK" Bundle.steD A U H ∧ vx_Zq Bundle.tN "SUPPRESSED_SENTINEL" Bundle.listD A U H ∧ (vk_R RX6 122 "no such shift" (SA 0) U ∧ vk_R RX6 143 "no such fact of a shift" (SA 1) U ∧ vk_R RX6 148 "no such pause" (SA 2) U ∧ vk_R RX6 165 "no such fact of a pause" (SA 3) U) ∧ va_Nw (.declares (Bundle.initS "java/lang/RuntimeException")) U ∧ va_Nw (.declares (Bundle.initS "java/lang/Exception")) U ∧ va_Nw (.declares (Bundle.initS Bundle.tN)) U ∧ va_Nw (.castable NSE NSE) U
theorem dec_warm {x : MethodName} {s U : State} (hW : s.WarmedH U.vm) (h : va_Nw (.declares x) s) : va_Nw (.declares x) U := va_tabs rfl (rfl : (s.setVm U.vm).vm = U.vm) (by rw [Cond.declares_setVm hW.alike]; exact h)
theorem EX_go {SA : Nat → Nat} {A B : Nat → Prop} {s U : State} {H : Heap} {locs : List Loc} (h : EX SA A s s.heap) (hS : va_S A s.heap H locs) (hB : ∀ q, B q → A q) (hW : s.WarmedH U.vm) : EX SA B U H := by
  obtain ⟨h1, h2, ⟨h4, h5, h6, h7⟩, h8, h9, h10, h11⟩ := h
  exact ⟨((h1.kept hS.2.1).narrow hB).moved hW.alike, ((h2.kept hS.2.1).narrow hB).moved hW.alike, ⟨h4.warm hW, h5.warm hW, h6.warm hW, h7.warm hW⟩, dec_warm hW h8, dec_warm hW h9, dec_warm hW h10, h11.warmC hW⟩
theorem EX_same {SA : Nat → Nat} {A : Nat → Prop} {u U : State} {H : Heap} (h : EX SA A u H) (e : u.vm = U.vm) : EX SA A U H := by
  obtain ⟨h1, h2, ⟨h4, h5, h6, h7⟩, h8, h9, h10, h11⟩ := h
  have ha : u.vm.Alike U.vm := by rw [e]; exact Vm.Alike.refl U.vm
  exact ⟨h1.moved ha, h2.moved ha, ⟨h4.same e.symm, h5.same e.symm, h6.same e.symm, h7.same e.symm⟩, va_tabs rfl e h8, va_tabs rfl e h9, va_tabs rfl e h10, va_tabs rfl e h11⟩
/-! NoSuchElementException(String): its constructor's link to RuntimeException's is the entry 13, so vx_throwS (entry 7) does not speak of it. The same way for it, over the library's ctorMessageOffV. -/
abbrev RTE : String := "java/lang/RuntimeException"
abbrev rxN : ByteArray := prog_24_method_4_code
theorem rxN_0 : decode rxN 0 = .ok (.aload_n 0, 1) := by decide +kernel
theorem rxN_1 : decode rxN 1 = .ok (.aload_n 1, 1) := by decide +kernel
theorem rxN_2 : decode rxN 2 = .ok (.invokespecial 13, 3) := by decide +kernel
theorem rxN_5 : decode rxN 5 = .ok (.return_, 1) := by decide +kernel
def atE : List Cond := [.methodLink RX6 124 (Bundle.initS NSE), .instantiable NSE 6, .castable NSE NSE, .selects NSE Bundle.tFill0 Bundle.tFill0, .selects NSE Bundle.tFill Bundle.tFill, .lays NSE Bundle.tN "cause" "Ljava/lang/Throwable;", .lays NSE Bundle.tN "stackTrace" Bundle.steD, .lays NSE Bundle.tN "suppressedExceptions" Bundle.listD, .lays NSE Bundle.tN "detailMessage" "Ljava/lang/String;", .isRef (.static Bundle.tN "UNASSIGNED_STACK" Bundle.steD), .isRef (.static Bundle.tN "SUPPRESSED_SENTINEL" Bundle.listD), .fieldLink Bundle.tN 198 Bundle.tN "backtrace" "Ljava/lang/Object;", .lays Bundle.tN Bundle.tN "backtrace" "Ljava/lang/Object;", .lays NSE Bundle.tN "backtrace" "Ljava/lang/Object;"]
def atX : List Cond := Bundle.throwableAtoms ++ (Bundle.throwableSAtoms ++ (Bundle.passSAtoms NSE RTE 13 rxN ++ (Bundle.chainSAtoms RTE ["java/lang/Exception"] ++ atE)))
section NX
variable {p : Program} {l : Launch} {e : Env} {R : Room} {s : State} {m : MethodId} {args : Array Value} {below : List Frame} {meth : Method} {c : Code} {W0 : State} {locs : List Loc} {cells slots : Nat}
theorem nx_sel {P : MethodId} {t : MethodName} {tf : MethodId} (X : Stand p l e R s m args below meth c W0 locs cells slots) (hf : s.vm.findClass NSE = some P.cls) (ht : t.cls ≠ "java/lang/invoke/MethodHandle" ∧ t.cls ≠ "java/lang/invoke/VarHandle") (hn : s.methodNamed? t = some tf) (h : (Cond.selects NSE t t).before args s = true) : selectMethod e.platform s.vm P.cls tf = .method tf := by
  obtain ⟨c2, r2, m2, q1, q2, q3, q4, -⟩ := Cond.selects_spec h
  cases q1.symm.trans hf
  cases q2.symm.trans (State.methodFound?_of_named hn ht)
  cases q3.symm.trans hn
  rw [Launch.admits_selectMethod X.admits]; exact q4
set_option maxHeartbeats 4000000 in
theorem nx_ctor (X : Stand p l e R s m args below meth c W0 locs cells slots) (hexec : p.tables.exec = Jvm.exec) (htr : e.platform.stackTraces = false) (hown : s.vm.findClass RX6 = some m.cls)
    (ha : ∀ w ∈ atX, w.before args s = true) (hlocs : ∀ x ∈ locs, ∀ cell, s.heap[x.base]? = some cell → cell.vm.isStatics = false)
    {a : Addr} {cX : ClassId} {kX : Class} (hfX : s.vm.findClass NSE = some cX) (hkX : s.vm.classes[cX]? = some kX) (hcell : W0.heap[a]? = some (freshCell cX kX)) (hnew : s.heap.size ≤ a) {msg : Value} (hmsg : msg.isRef = true)
    {g : JFrame} (hg : g.method = m) (hsize : g.locals.size = c.maxLocals) (hlocked : g.locked = none) (hent : g.entered = []) {rest : List Value} (hst : g.stack = msg :: .ref a :: .ref a :: rest)
    (d6 : decode c.code g.pc = .ok (.invokespecial 124, 3)) (d9 : decode c.code (g.pc + 3) = .ok (.athrow, 1)) (hout : ∀ x ∈ c.exceptionTable.toList, covers x (g.pc + 3) = false)
    (hRf : 5 < R.frames) (hRl : 2 * g.monitorRoom + ((Value.ref a :: rest).map fun v => v.category).sum + 81 ≤ R.locals) (hlocks : meth.locks = false) :
    ∃ U : State, Steps p.tables e below (W0.setTop g) U ∧ U.status = .running ∧ Ended U below (.threw a) ∧ s.WarmedH U.vm ∧ s.sameButNew ({ U with vm := s.vm } : State) locs cells slots ∧ ∃ ce, U.heap[a]? = some ce ∧ ce.vm = .none ∧ s.vm.findClass NSE = some ce.cls := by
  have hpl : e.platform.magicAccessors = ({} : Platform).magicAccessors := by rw [X.admits.platform]
  obtain ⟨T, Z0, L, -, Y⟩ := ThrowableC.of_atoms (args := args) (by rw [X.admits.platform]) (by rw [X.admits.platform]) hpl (fun w h => ha w (List.mem_append_left _ h))
  obtain ⟨Z, M, LZ, LM, hnZ⟩ := Init0T.ofS_atoms (args := args) hpl L Y (fun w h => ha w (List.mem_append_right _ (List.mem_append_left _ h)))
  obtain ⟨P1, L1, hm1, hs1⟩ := PassC.ofS_atoms (args := args) (s := s) hpl (X := NSE) (Y := RTE) (by decide) (by decide) rxN_0 rxN_1 rxN_2 rxN_5 (fun w h => ha w (List.mem_append_right _ (List.mem_append_right _ (List.mem_append_left _ h))))
  obtain ⟨P2, Ps, hlen, L2, hL, hm2, hl2, hl3⟩ := Bundle.chainS (args := args) hpl hnZ ["java/lang/Exception"] RTE (by decide) (by decide) (fun w h => ha w (List.mem_append_right _ (List.mem_append_right _ (List.mem_append_right _ (List.mem_append_left _ h)))))
  have hE : ∀ w ∈ atE, w.before args s = true := fun w h => ha w (List.mem_append_right _ (List.mem_append_right _ (List.mem_append_right _ (List.mem_append_right _ h))))
  have hf : s.vm.findClass NSE = some P1.m.cls := findClass_of_methodNamed hm1
  cases hfX.symm.trans hf
  obtain ⟨c1, k1, hc1, hk, hord, -, -, -⟩ := Cond.instantiable_spec (hE (.instantiable NSE 6) (by decide +kernel))
  cases hc1.symm.trans hf
  cases hkX.symm.trans hk
  have h0 := nx_sel (P := P1.m) (tf := T.fill0) X hf (by decide) Y.fill0 (hE (.selects NSE Bundle.tFill0 Bundle.tFill0) (by decide +kernel))
  have h1 := nx_sel (P := P1.m) (tf := T.fill) X hf (by decide) Y.fill (hE (.selects NSE Bundle.tFill Bundle.tFill) (by decide +kernel))
  obtain ⟨cs0, hcs0, hiss⟩ := Y.statics
  obtain ⟨u0, hu0⟩ := Cond.staticRefV Y.unassigned L.unassignedStatic L.statics hcs0 hiss (hE (.isRef (.static Bundle.tN "UNASSIGNED_STACK" Bundle.steD)) (by decide +kernel))
  obtain ⟨sen, hsen⟩ := Cond.staticRefV Y.sentinel L.sentinelStatic L.statics hcs0 hiss (hE (.isRef (.static Bundle.tN "SUPPRESSED_SENTINEL" Bundle.listD)) (by decide +kernel))
  obtain ⟨ciB, iB, fB, hkB, hgB, haB, hsB, -, hnB, htB, hffB⟩ := Cond.ownField (t := .object "java/lang/Object") Y.found L.cls (by decide +kernel) (hE (.fieldLink Bundle.tN 198 Bundle.tN "backtrace" "Ljava/lang/Object;") (by decide +kernel)) (hE (.lays Bundle.tN Bundle.tN "backtrace" "Ljava/lang/Object;") (by decide +kernel)) e.platform hpl
  obtain ⟨cS, hcS, heS, -, hkeep⟩ := X.same.2.2.2.2.2 T.aS cs0 hcs0
  have hno : ∀ i, (⟨T.aS, i⟩ : Loc) ∉ locs := fun i hm => by
    have h9 := hlocs _ hm cs0 hcs0
    rw [hiss] at h9; cases h9
  have hkn : cS.vm ≠ .unknown := by
    rw [heS]; intro hu
    rw [show cs0.vm = .unknown from hu] at hiss; cases hiss
  have hne : T.aS ≠ a := Nat.ne_of_lt (Nat.lt_of_lt_of_le (Array.getElem?_eq_some_iff.mp hcs0).1 hnew)
  obtain ⟨iM, hffM⟩ := Y.msg
  obtain ⟨tyC, dC, hdC, nC⟩ := Cond.laysAt hf hk Y.cause (hE (.lays NSE Bundle.tN "cause" "Ljava/lang/Throwable;") (by decide +kernel))
  obtain ⟨tyS, dS, hdS, nS⟩ := Cond.laysAt hf hk Y.stack (hE (.lays NSE Bundle.tN "stackTrace" Bundle.steD) (by decide +kernel))
  obtain ⟨tyP, dP, hdP, nP⟩ := Cond.laysAt hf hk Y.supp (hE (.lays NSE Bundle.tN "suppressedExceptions" Bundle.listD) (by decide +kernel))
  obtain ⟨tyM, dM, hdM, nM⟩ := Cond.laysAt hf hk hffM (hE (.lays NSE Bundle.tN "detailMessage" "Ljava/lang/String;") (by decide +kernel))
  obtain ⟨tyB, dB, hdB, nB⟩ := Cond.laysAt hf hk hffB (hE (.lays NSE Bundle.tN "backtrace" "Ljava/lang/Object;") (by decide +kernel))
  have bC := Cond.laysApart hdB hdC nB nC (by rw [hnB, Y.causeName]; decide)
  have bS := Cond.laysApart hdB hdS nB nS (by rw [hnB, Y.stackName]; decide)
  have bP := Cond.laysApart hdB hdP nB nP (by rw [hnB, Y.suppName]; decide)
  have hbk : ((preparedCellV T.toThrowableT (freshCell P1.m.cls kX) a u0 sen).withEntry W0.cur).slots[fB.slot]? = some .null := by
    have h9 := fresh_default (c := P1.m.cls) tyB
    rw [htB] at h9
    simpa [preparedCellV, Cell.setSlot, Cell.withEntry, Array.getElem?_setIfInBounds, bC, bS, bP, bC.symm, bS.symm, bP.symm, defaultValue] using h9
  have hskip : SkipFacts T e.platform s (fun u => u) u0 ((preparedCellV T.toThrowableT (freshCell P1.m.cls kX) a u0 sen).withEntry W0.cur) := ⟨{ ci198 := ciB, i198 := iB, fBack := fB }, ⟨hkB, hgB, haB, hsB⟩, hbk, fun _ _ => rfl⟩
  obtain ⟨tm, methC, cdC, kC, vm1, hnC, -, -, -, -, -, -, -, hW1, st1⟩ := Steps.initColdS (tb := p.tables) (e := e) (below := below) (s := s) (U := W0) X.here hexec X.warmed hpl hown (t := Bundle.initS NSE) rfl rfl (by decide)
    (hE (.methodLink RX6 124 (Bundle.initS NSE)) (by decide +kernel)) (ha (.instanceMethod (Bundle.initS NSE)) (List.mem_append_right _ (List.mem_append_right _ (List.mem_append_left _ List.mem_cons_self)))) (bytes := rxN) (maxL := 2) (ha (.code (Bundle.initS NSE) rxN 2 none) (List.mem_append_right _ (List.mem_append_right _ (List.mem_append_left _ (List.mem_cons_of_mem _ List.mem_cons_self)))))
    (f := g) hg (a := a) (msg := msg) (rest := .ref a :: rest) hst d6
  cases hnC.symm.trans hm1
  have X1 := X.noted hW1
  have hlen1 : Ps.length = 1 := hlen
  obtain ⟨vm2, X2, st2⟩ := X1.ctorMessageOffV hexec (g := { g with stack := .ref a :: rest }) hg hsize T L Z LZ M LM (P1 :: P2 :: Ps)
    (fun P hP => by
      rcases List.mem_cons.mp hP with rfl | hP
      · exact L1
      · rcases List.mem_cons.mp hP with rfl | hP
        · exact L2
        · exact hL P hP) ⟨Option.some.inj (hs1.symm.trans hm2), hl2, hl3⟩ (u0 := u0) (sen := sen) (self := a) hmsg (cell := freshCell P1.m.cls kX) (cellS := cS)
    hcell (fun _ => by simp) (by simp) rfl rfl h0 h1 hcS hne hkn (by rw [hkeep _ (hno _)]; exact hu0) (by rw [hkeep _ (hno _)]; exact hsen)
    (Takes.of_laid hk hord tyC (by rw [Y.causeType]; rfl)) (Takes.of_laid hk hord tyS (by rw [Y.stackType]; exact fits_refV_array _ u0)) (Takes.of_laid hk hord tyP (by rw [Y.suppType]; exact fits_refV_object _ sen))
    (Takes.of_laid hk hord tyM (by rw [Y.msgType]; exact fits_refV_object _ ⟨msg, hmsg⟩)) Y.objLocals hskip htr [] d6
    (by simp only [List.length_cons, hlen1]; omega) (by simp only [List.length_cons, hlen1]; exact hRl)
  obtain ⟨hwalk, hrun, hended, hWU, hsame⟩ := X2.athrowLeaves hexec (g := { g with stack := .ref a :: rest, pc := g.pc + 3 }) hg hlocked hent hout (a := a) (rest := rest) rfl d9
  have hlt : a < ((W0.setVm vm1).setVm vm2).heap.size := (Array.getElem?_eq_some_iff.mp hcell).1
  refine ⟨_, st1 _ (fun acts => ?_), hrun, hended, hWU, hsame.weaken (fun y hy hlt' => ?_) (Nat.le_refl _) (Nat.le_refl _), _, heapAt_setCell_self (s := (W0.setVm vm1).setVm vm2) (plainBareV T.toThrowableT (freshCell P1.m.cls kX) a u0 sen msg) hlt, rfl, hf⟩
  · rw [doInvoke_state]
    exact st2 _ hwalk
  · rcases List.mem_append.mp hy with h9 | h9
    · exact h9
    · exfalso
      have hb : y.base = a := by
        simp only [List.mem_cons, List.not_mem_nil, or_false] at h9
        rcases h9 with rfl | rfl | rfl | rfl | rfl <;> rfl
      rw [hb] at hlt'
      exact Nat.not_lt.mpr hnew hlt'
end NX
/-- the words of the throw that are not of the start's statics -/
def wsTX : List Cond := atX.filter vx_no
section NY
variable {p : Program} {l : Launch} {e : Env} {R : Room} {s : State} {m : MethodId} {args : Array Value} {below : List Frame} {meth : Method} {c : Code} {H : Heap} {locs : List Loc} {cells slots : Nat} {free : Addr → Prop} {ls : Array Slot} {rest : List Value} {Qc : Array Value → State → Outcome → State → Prop} {XC : String → State → State → Prop}
set_option maxHeartbeats 1000000 in
/-- 'throw new NoSuchElementException(text)' in the class -/
theorem vx_throwX {cc : ByteArray} {pc : Nat} (hexec : p.tables.exec = Jvm.exec) (hb : c.code = cc) (hl : l.stackTraces = false) {text : String} {is mc ms sa : Nat} {A : Nat → Prop}
    (hown : s.vm.findClass RX6 = some m.cls) (hk : (Cond.classLink RX6 120 NSE).before args s = true) (hini : (Cond.initialized NSE).before args s = true) (hstr : vk_R RX6 is text sa s) (hat : ∀ w ∈ wsTX, w.before args s = true)
    (hgood : ∀ w ∈ Cond.classLink RX6 120 NSE :: Cond.initialized NSE :: wsTX, vx_ot w = true)
    (hU : vx_Zq Bundle.tN "UNASSIGNED_STACK" Bundle.steD A s s.heap) (hN : vx_Zq Bundle.tN "SUPPRESSED_SENTINEL" Bundle.listD A s s.heap) (hS : va_S A s.heap H locs) (hsize : ls.size = c.maxLocals)
    (d0 : decode cc pc = .ok (.new 120, 3)) (d3 : decode cc (pc + 3) = .ok (.dup, 1)) (d4 : decode cc (pc + 4) = .ok (.ldc is, 2)) (d6 : decode cc (pc + 6) = .ok (.invokespecial 124, 3)) (d9 : decode cc (pc + 9) = .ok (.athrow, 1))
    (hout : ∀ x ∈ c.exceptionTable.toList, covers x (pc + 9) = false)
    (hRframes : 5 < R.frames) (hRlocals : (rest.map fun v => v.category).sum + 82 ≤ R.locals) (hRcells : cells + 1 ≤ R.cells) (hRslots : slots + 6 ≤ R.slots) (hlocks : meth.locks = false)
    (hx : ∀ t : State, s.vm.Alike t.vm → H.size ≤ t.heap.size → (∀ q : Nat, q < H.size → t.heap[q]? = H[q]?) → XC NSE s t)
    (hf : ∀ z ∈ locs, free z.base) (hc : cells + 1 ≤ mc) (hs : slots + 6 ≤ ms) :
    W p l e R s m args below meth c H locs cells slots (vx_MQ below Qc XC args s mc ms free) (F0 m pc ls rest) := by
  intro T hT X
  have htr : e.platform.stackTraces = false := (show e.platform.stackTraces = l.stackTraces by rw [X.admits.platform]).trans hl
  have Y := vx_rebase X (R' := { frames := R.frames, locals := R.locals, cells := 1, slots := 6 }) (Nat.le_refl _) (Nat.le_refl _) hRcells hRslots
  obtain ⟨s', hA⟩ : ∃ z, z = (T.setVm s.vm).setFrames (.invoking m args :: below) := ⟨_, rfl⟩
  rw [← hA] at Y
  have hvm : s'.vm = s.vm := by rw [hA]; rfl
  have hhp : s'.heap = H := by rw [hA]; exact hT
  have hW0 : s.WarmedH s'.vm := by rw [hvm]; exact State.WarmedH.refl s
  have hat' : ∀ w ∈ wsTX, w.before args s' = true := fun w hw => vx_ot_at hW0 hvm.symm (hgood w (List.mem_cons_of_mem _ (List.mem_cons_of_mem _ hw))) (hat w hw)
  have hk' : (Cond.classLink RX6 120 NSE).before args s' = true := vx_ot_at hW0 hvm.symm (hgood _ List.mem_cons_self) hk
  have hini' : (Cond.initialized NSE).before args s' = true := vx_ot_at hW0 hvm.symm (hgood _ (List.mem_cons_of_mem _ List.mem_cons_self)) hini
  have hU' : vx_Zq Bundle.tN "UNASSIGNED_STACK" Bundle.steD A s' s'.heap := by rw [hhp]; exact vx_Zq.moved hW0.alike (hU.kept hS.2.1)
  have hN' : vx_Zq Bundle.tN "SUPPRESSED_SENTINEL" Bundle.listD A s' s'.heap := by rw [hhp]; exact vx_Zq.moved hW0.alike (hN.kept hS.2.1)
  have h : ∀ w ∈ atX, w.before args s' = true := vx_own hat' (vx_isRefq hU'.1) (vx_isRefq hN'.1) hU'.2.word hN'.2.word
  have hown' : s'.vm.findClass RX6 = some m.cls := by rw [hvm]; exact hown
  have hins : (Cond.instantiable NSE 6).before args s' = true := h _ (by decide +kernel)
  obtain ⟨vm₁, cX, kX, hfX, hkX, -, -, X₁, st1⟩ := Y.newCold hexec (own := RX6) (C := NSE) (index := 120) (n := 6) hown' hk' hins hini' (g := F0 m pc ls rest) rfl (by rw [hb]; exact d0) (Nat.le_refl _) (Nat.le_refl _)
  generalize hT1 : (T.setVm vm₁).pushCell { cls := cX, slots := kX.instanceTypes.map defaultValue, vm := .none } = T1 at X₁ st1
  have hcat : (Value.ref T.heap.size).category = 1 := rfl
  have hcellA : T1.heap[T.heap.size]? = some (freshCell cX kX) := by rw [← hT1]; exact State.heap_pushCell_size _ _
  have d3' : decode c.code (pc + 3) = .ok (.dup, 1) := by rw [hb]; exact d3
  have d4' : decode c.code (pc + 4) = .ok (.ldc is, 2) := by rw [hb]; exact d4
  have hstr' : vk_R RX6 is text sa s' := vk_R.warm hW0 hstr
  obtain ⟨U, hsteps, hrun, hend, hW, hsame, ce, hce, hcv, hcc⟩ := nx_ctor X₁ hexec htr hown' h (fun x hx => nomatch hx) hfX hkX hcellA (by rw [hhp, hT]; exact Nat.le_refl _) (msg := .ref sa) rfl
    (g := { method := m, pc := pc + 6, locals := ls, stack := .ref sa :: .ref T.heap.size :: .ref T.heap.size :: rest, locked := none }) rfl hsize rfl rfl (rest := rest) rfl
    (by rw [hb]; exact d6) (by rw [hb]; exact d9) hout hRframes (by simp only [List.map_cons, List.sum_cons, hcat]; omega) hlocks
  obtain ⟨f1, f2⟩ := vx_frame hsame
  rw [hhp] at f1 f2
  have hWs : s.WarmedH U.vm := State.WarmedH.trans hW0 hW
  have hcl : s.vm.findClass NSE = some ce.cls := by rw [hvm] at hcc; exact hcc
  have hall : s.sameButNew ({ U with vm := s.vm } : State) locs mc ms := by
    subst hA
    obtain ⟨e1, e2⟩ := hsame
    rw [State.setFrames_setFrames] at e1
    have h2 : (T.setVm s.vm).sameButNew ({ U with vm := s.vm } : State) [] (0 + 1) (0 + 6) := ⟨e1, e2⟩
    have h3 := X.same.trans h2
    rw [List.append_nil] at h3
    exact h3.mono hc hs
  refine ⟨U, ?_, .threw T.heap.size, hrun, hend, Or.inr ⟨T.heap.size, rfl, NSE, ce, locs, hx U hWs.alike f1 (fun q hq => f2 q hq (fun z hz => nomatch hz)), hce, hcv, hcl, hWs, hall, hf⟩⟩
  refine st1 _ ?_
  show Steps p.tables e below (T1.setTop { method := m, pc := pc + 3, locals := ls, stack := .ref T.heap.size :: rest, locked := none }) _
  jvm_step X₁.here [X₁.here.top, hexec, d3', Value.category]
  exact X₁.ldcString hexec (own := RX6) (text := text) (index := is) (a := sa) hown' hstr'.1 hstr'.2
    (g := { method := m, pc := pc + 4, locals := ls, stack := .ref T.heap.size :: .ref T.heap.size :: rest, locked := none }) rfl d4' _ hsteps
end NY
/-- the words of shift and pause, as the tables have them -/
def wsTG : List Cond := wsTX.filter goodWord
def wsX6_shiftX : List Cond := .code yX6_shift cX6_shift 3 (some .int) :: (([.classLink RX6 120 NSE, .initialized NSE, .fieldLink RX6 23 "BreakSetter" "plan" "LBreakSetter$Plan;", .fieldLink RX6 127 "BreakSetter$Plan" "shiftPost" "[I", .fieldLink RX6 131 "BreakSetter$Plan" "shiftFrom" "[I", .fieldLink RX6 134 "BreakSetter$Plan" "shiftTo" "[I", .fieldLink RX6 137 "BreakSetter$Plan" "shiftPauses" "[I", .fieldLink RX6 140 "BreakSetter$Plan" "shiftFirst" "[I", .methodLink RX6 117 yX1_hasShift, .instanceMethod yX1_hasShift, .selects RX1 yX1_hasShift yX1_hasShift, .initialized RX1, .code yX1_hasShift cX1_hasShift 2 (some .boolean), .fieldLink RX1 58 "BreakSetter$Plan" "shifts" "I"] : List Cond) ++ (wsX60 ++ (wsX10 ++ wsTG)))
def wsX6_pauseX : List Cond := .code yX6_pause cX6_pause 3 (some .int) :: (([.classLink RX6 120 NSE, .initialized NSE, .fieldLink RX6 23 "BreakSetter" "plan" "LBreakSetter$Plan;", .fieldLink RX6 150 "BreakSetter$Plan" "pauseShift" "[I", .fieldLink RX6 153 "BreakSetter$Plan" "pauseLong" "[I", .fieldLink RX6 156 "BreakSetter$Plan" "pauseEarly" "[I", .fieldLink RX6 159 "BreakSetter$Plan" "pauseLate" "[I", .fieldLink RX6 40 "BreakSetter" "roster" "LBreakSetter$Roster;", .fieldLink RX6 162 "BreakSetter$Roster" "places" "[I", .methodLink RX6 145 yX1_hasPause, .instanceMethod yX1_hasPause, .selects RX1 yX1_hasPause yX1_hasPause, .initialized RX1, .code yX1_hasPause cX1_hasPause 2 (some .boolean), .fieldLink RX1 61 "BreakSetter$Plan" "pauses" "I"] : List Cond) ++ (wsX60 ++ (wsX10 ++ (wsX30 ++ wsTG))))
set_option maxRecDepth 20000 in
theorem gX6_shiftX_X1_hasShift : GoodIn wsX6_shiftX (wsV RX6 117 RX1 yX1_hasShift wsX1_hasShift) := goodIn_sub (by decide +kernel) (by decide +kernel)
set_option maxRecDepth 20000 in
theorem gX6_pauseX_X1_hasPause : GoodIn wsX6_pauseX (wsV RX6 145 RX1 yX1_hasPause wsX1_hasPause) := goodIn_sub (by decide +kernel) (by decide +kernel)
theorem wsTX_ot : ∀ w ∈ Cond.classLink RX6 120 NSE :: Cond.initialized NSE :: wsTX, vx_ot w = true := by decide +kernel
theorem wsTX_bad : ∀ w ∈ wsTX.filter (fun w => !goodWord w), w ∈ [Cond.declares (Bundle.initS RTE), .declares (Bundle.initS "java/lang/Exception"), .declares (Bundle.initS Bundle.tN), .castable NSE NSE] := by decide +kernel
def wRE (SA : Nat → Nat) (D : va_G) (C : Nat → ClassId) (w : va_W) (sz : Nat) (U : State) : Prop := U.heap.size = sz ∧ wR D C w U ∧ EX SA (fun _ => False) U U.heap
theorem wRE_blind (SA : Nat → Nat) (D : va_G) (C : Nat → ClassId) (w : va_W) (sz : Nat) (av : List Value) : FrameBlind (va_Pc av (wRE SA D C w sz)) := fun a U g mk q => by
  obtain ⟨q0, q1, ⟨qP, qK, qN⟩, qX⟩ := q
  exact ⟨q0, q1, ⟨qP, va_K.moved (u := U) (U := U.calling g mk a) (Vm.Alike.refl U.vm) qK, NW_same (U := U.calling g mk a) qN rfl⟩, EX_same (U := U.calling g mk a) qX rfl⟩
/-- a method that writes nothing: it answers o, or throws where o is none -/
def CX (SA : Nat → Nat) (l : Launch) (y : MethodName) (ws : List Cond) (fr lo : Nat) (D : va_G) (C : Nat → ClassId) (av : List Value) (w : va_W) (o : Option Int) : Prop :=
  ∀ sz : Nat, vx_Met l y ws (rmC fr lo 1 6) (va_Pc av (wRE SA D C w sz)) (va_Qi (fun r (_ : Unit) => ∃ z, o = some z ∧ r = iI z) (fun _ _ => True) (fun q => sz ≤ q)) (vx_X (fun _ : Unit => o = none) (fun E _ _ => E = NSE) (fun q => sz ≤ q)) 1 6 (fun _ => False)
set_option maxHeartbeats 1000000 in
theorem CX_of {SA : Nat → Nat} {l : Launch} (hl0 : l.stackTraces = false) {y : MethodName} {ws ws' : List Cond} {fr lo : Nat} {D : va_G} {C : Nat → ClassId} {av : List Value} {w : va_W} {o : Option Int} {cc : ByteArray} {maxL : Nat}
    (hy : plainName y.cls = true) (hw : ws = Cond.code y cc maxL (some .int) :: ws') (hn : (lg_sl av).length ≤ maxL) (hc6 : y.cls = RX6) (hfr : 5 < fr) (hlo : 82 ≤ lo)
    (hin : ∀ w ∈ wsTG, w ∈ ws) (hin2 : Cond.classLink RX6 120 NSE ∈ ws) (hin3 : Cond.initialized NSE ∈ ws)
    (body : ∀ (p : Program) (e : Env) (s : State) (m : MethodId) (below : List Frame) (meth : Method) (c : Code) (Q : State → Prop) (ls : Array Slot), p.tables.exec = Jvm.exec → c.code = cc → c.maxLocals = maxL → s.vm.findClass y.cls = some m.cls → (∀ w ∈ ws, w.before av.toArray s = true) → va_K D vwCl (ty4 C) s → NW s → EX SA (fun _ => False) s s.heap → lv_has ls maxL (lv_args 0 av) → va_P D vwCl w s.heap →
      (∀ (ls : Array Slot) (pc : Nat) (z : Int), decode cc pc = .ok (.ireturn, 1) → o = some z → W p l e (rmC fr lo 1 6) s m av.toArray below meth c s.heap [] 0 0 Q (F0 m pc ls [.int (iI z)])) →
      (∀ (ls : Array Slot) (pc is sa : Nat) (tx : String), vk_R RX6 is tx sa s → ls.size = maxL → decode cc pc = .ok (.new 120, 3) → decode cc (pc + 3) = .ok (.dup, 1) → decode cc (pc + 4) = .ok (.ldc is, 2) → decode cc (pc + 6) = .ok (.invokespecial 124, 3) → decode cc (pc + 9) = .ok (.athrow, 1) → o = none → W p l e (rmC fr lo 1 6) s m av.toArray below meth c s.heap [] 0 0 Q (F0 m pc ls [])) →
      W p l e (rmC fr lo 1 6) s m av.toArray below meth c s.heap [] 0 0 Q (F0 m 0 ls [])) : CX SA l y ws fr lo D C av w o := by
  intro sz
  refine vx_ofW (cc := cc) (maxL := maxL) (ret := some .int) hy hw ?_
  intro p e s m args below meth c s₁ B hml htab hv
  obtain ⟨rfl, hsz, ⟨hP, hK, hNW⟩, hE⟩ := hv
  have hx := B.exec
  have hb := B.bytes
  have hr := B.returns
  have hts := atoms_spec (ws := ws) B.pre
  have hown : s.vm.findClass y.cls = some m.cls := findClass_of_methodNamed B.named
  have hlocks := B.notSynchronized
  subst hsz
  have hl := lv_entry av (n := maxL) hn
  rw [lg_entry_eq]
  refine body p e s m below meth c _ _ hx hb hml hown hts hK hNW hE hl hP ?_ ?_
  · intro ls pc z hd ho
    refine vx_ret (W.widen (k := 1) (n := 6) (Nat.zero_le _) (Nat.zero_le _) ?_)
    exact W.iret (v := iI z) hx hb hr (fun t ht hW => ⟨⟨iI z, (), rfl, ⟨z, ho, rfl⟩, trivial⟩, by rw [ht]; exact Nat.le_refl _, fun q _ _ => by rw [ht]⟩) (fun q h => by cases h) hd
  · intro ls pc is sa tx hR hsz d0 d3 d4 d6 d9 ho
    have hown6 : s.vm.findClass RX6 = some m.cls := by rw [← hc6]; exact hown
    refine vx_throwX (A := fun _ => False) (is := is) (text := tx) (sa := sa) hx hb hl0 hown6 (hts _ hin2) (hts _ hin3) hR (vx_hat (B := [.declares (Bundle.initS RTE), .declares (Bundle.initS "java/lang/Exception"), .declares (Bundle.initS Bundle.tN), .castable NSE NSE]) (fun w hw => hts w (hin w hw)) wsTX_bad (vx_c (va_Nw.use rfl hE.2.2.2.1) (vx_c (va_Nw.use rfl hE.2.2.2.2.1) (vx_c (va_Nw.use rfl hE.2.2.2.2.2.1) (vx_c (va_Nw.use rfl hE.2.2.2.2.2.2) vx_n))))) wsTX_ot hE.1 hE.2.1 va_S.rf (by rw [hml]; exact hsz) d0 d3 d4 d6 d9 (fun x hx => (htab x hx).elim) hfr (by show 0 + _ ≤ lo; rw [Nat.zero_add]; exact hlo) (Nat.le_refl _) (Nat.le_refl _) hlocks ?_ (fun z h => by cases h) (Nat.le_refl _) (Nat.le_refl _)
    exact fun t ha hz hq => ⟨(), ho, rfl, hz, fun q h1 _ => hq q h1⟩
