/-! THE CLAIM OUT OF ONE WALK OF THE LAW'S BODY. Your part is whole_start (and what it stands on); all else here is the same for every law, but numbers. -/
def R_law : String := "BreakSetterLaw"
def lw_P (b : Addr) (xs : List Int32) (args : Array Value) (s : State) : Prop := args = #[.ref b] ∧ s.IntsAt b xs ∧ xs.length ≤ 3072 ∧ (Jvm.Cond.and given_1 narrow_1).before args s = true
def lw_Q (_ : Array Value) (s : State) (o : Outcome) (t : State) : Prop := o = .returned (some (.int 1)) ∧ Framed s o t [] 601024 7293034
def lw_Z (below : List Frame) (a : Array Value) (s : State) : State → Prop := fun t => ∃ o, t.status = .running ∧ Ended t below o ∧ lw_Q a s o t
/-- the law's own end, with 1 on the stack, nothing written that was there before, its room as the claim has it -/
theorem lw_ret {p : Program} {l : Launch} {e : Env} {s : State} {m : MethodId} {below : List Frame} {meth : Method} {c : Code} {b : Nat} (hx : p.tables.exec = Jvm.exec) (hb : c.code = code) (hr : meth.sig.returnType = ret) (hlocks : meth.locks = false) {pc : Nat} {H : Heap} {ls : Array Slot} (hdg : decode code pc = .ok (.ireturn, 1)) : W p l e room_1 s m #[Value.ref b] below meth c H [] 601024 7293034 (lw_Z below #[Value.ref b] s) (F0 m pc ls [.int 1]) := by
  intro T hT X
  obtain ⟨fs, hret, hrun, hended, hW, hframe⟩ := X.leave (v := some (.int 1)) (hlocks := hlocks) (fun h => by rw [hr] at h; cases h)
  have hmeth' : T.vm.method? m = some meth := X.method'
  refine ⟨T.setFrames fs, ?_, .returned (some (.int 1)), hrun, hended, rfl, ⟨_, rfl⟩, hW, hframe⟩
  jvm_step X.here [X.here.top, hx, hb, hdg, hmeth', hr, ret, narrow_b1]
  (try refine ⟨rfl, ?_⟩); (try refine ⟨rfl, ?_⟩)
  first | (intro acts; rw [hret _ acts rfl rfl rfl]) | rw [hret _ _ rfl rfl rfl]
  exact Steps.refl _
/-- what holds at the law's entry: the machine, the code, the tables' words (any of lw_tbl by 'hts w (by decide +kernel)'), the script of L ints xs at the cell b, what the Statement gives of the start (any of its parts by flat_of_before) -/
def lw_At (p : Program) (s : State) (m : MethodId) (meth : Method) (c : Code) (b L : Nat) (xs : Nat → Int32) : Prop :=
  p.tables.exec = Jvm.exec ∧ c.code = code ∧ meth.sig.returnType = ret ∧ c.maxLocals = 7 ∧ s.vm.findClass R_law = some m.cls ∧ (∀ w ∈ lw_tbl, w.before #[Value.ref b] s = true) ∧ va_X b L xs s s.heap ∧ b < s.heap.size ∧ meth.locks = false ∧ (Jvm.Cond.and given_1 narrow_1).before #[Value.ref b] s = true
theorem iand31 (r : Int32) : ∃ k : Int, 0 ≤ k ∧ k < 32 ∧ r &&& iI 31 = iI k := by
  have h : (r &&& iI 31).toBitVec.toNat ≤ 31 := by
    show (r.toBitVec &&& (iI 31).toBitVec).toNat ≤ 31
    rw [BitVec.toNat_and]
    exact Nat.le_trans Nat.and_le_right (by decide)
  have e : (r &&& iI 31).toInt = ((r &&& iI 31).toBitVec.toNat : Int) := BitVec.toInt_eq_toNat_of_lt (by omega)
  exact ⟨(r &&& iI 31).toInt, by omega, by omega, (iI_of _).symm⟩
set_option maxHeartbeats 4000000 in
set_option maxRecDepth 100000 in
theorem law_loop {p : Program} {l : Launch} {e : Env} {s : State} {m : MethodId} {below : List Frame} {meth : Method} {c : Code} {D : va_G} {C : Nat → ClassId} {K V SA : Nat → Nat} {b L : Nat} {xs : Nat → Int32} (E : LE p l s m c D C K V SA b L xs) (hr : meth.sig.returnType = ret) (hlocks : meth.locks = false) {q : Nat → Nat} {ol : Nat} :
    ∀ (n i : Nat), L + 1 ≤ i + n → i ≤ L → ∀ (x : CS) (y : MS) (fo : Nat → Int64) (H : Heap) (locs : List Loc) (ls : Array Slot), INV q C x y → lv_has ls 7 [(0, .ref b), (1, .ref (q 0)), (2, .ref (q 36)), (3, .ref ol), (4, .int (iI (i : Int)))] → va_P D vwCl (LW q C x y ol fo) H → va_D (fun z : Nat => s.heap.size ≤ z) (LW q C x y ol fo) → va_S (fun z : Nat => s.heap.size ≤ z) s.heap H locs → W p l e room_1 s m #[Value.ref b] below meth c H locs (100 + i) (8000 + 6 * i) (lw_Z below #[Value.ref b] s) (F0 m 23 ls []) := by
  have hx := E.hx
  have hb := E.hb
  have hL := E.hL
  intro n
  induction n with
  | zero =>
    intro i h1 h2
    exact absurd h1 (by omega)
  | succ n ih =>
    intro i hin hiL x y fo H locs ls I hl hP hD hS
    refine lv_iload hx hb dL_law_23 (lv_at hl 4 rfl) ?_
    refine lv_aload_n hx hb dL_law_25 rfl (lv_at hl 0 rfl) ?_
    refine va_slen hx hb E.hX E.hbl (Nat.not_le.mpr E.hbl) hS dL_law_26 ?_
    refine W_wen (x := Int32.ofNat L) (y := iI (L : Int)) (nat_iI L) ?_
    refine lv_bipush (v := iI 6) hx hb dL_law_27 (by decide) ?_
    refine j_isub hx hb dL_law_29 ?_
    refine j_icmp_gt (tgt := 764) hx hb dL_law_30 rfl ⟨by omega, by omega⟩ ⟨by omega, by omega⟩ (fun c1 => ?_) (fun c1 => ?_)
    · refine lv_iconst (v := 1) hx hb dL_law_764 (by decide) ?_
      refine va_forget (fun q hq => hS.2.2 q hq) ?_
      refine W.widen (k := 601024) (n := 7293034) (by omega) (by omega) ?_
      exact lw_ret hx hb hr hlocks dL_law_765
    · have hi : i + 6 ≤ L := by omega
      refine lv_aload_n hx hb dL_law_33 rfl (lv_at hl 0 rfl) ?_
      refine lv_iload hx hb dL_law_34 (lv_at hl 4 rfl) ?_
      refine j_sld hx hb E.hX E.hbl hS hL ⟨by omega, by omega⟩ dL_law_36 ?_
      refine lv_bipush (v := iI 31) hx hb dL_law_37 (by decide) ?_
      refine lv_iand hx hb dL_law_39 ?_
      obtain ⟨k, k0, k1, ek⟩ := iand31 (iI (sx xs (i : Int)))
      refine W_wen ek ?_
      have kk : ∀ (x : CS) (y : MS) (fo : Nat → Int64) (H : Heap) (locs : List Loc) (ls : Array Slot), INV q C x y → lv_has ls 7 [(0, .ref b), (1, .ref (q 0)), (2, .ref (q 36)), (3, .ref ol), (4, .int (iI (i : Int)))] → va_P D vwCl (LW q C x y ol fo) H → va_D (fun z : Nat => s.heap.size ≤ z) (LW q C x y ol fo) → va_S (fun z : Nat => s.heap.size ≤ z) s.heap H locs → W p l e room_1 s m #[Value.ref b] below meth c H locs (100 + i + 1) (8000 + 6 * i + 6) (lw_Z below #[Value.ref b] s) (F0 m 758 ls []) := by
        intro x y fo H locs ls I hl hP hD hS
        refine j_iinc (lv' := [(4, .int (iI ((i : Int) + 6))), (0, .ref b), (1, .ref (q 0)), (2, .ref (q 36)), (3, .ref ol)]) hx hb dL_law_758 hl (k := 4) rfl (by decide) rfl (fun ls hl => ?_)
        refine lv_goto (tgt := 23) hx hb dL_law_761 rfl ?_
        refine W.widen (k := 100 + (i + 6)) (n := 8000 + 6 * (i + 6)) (by omega) (by omega) ?_
        exact ih (i + 6) (by omega) (by omega) x y fo H locs ls I (lv_sub hl [1, 2, 3, 4, 0] rfl) hP hD hS
      by_cases hk : k < 20
      · rcases (show k = 0 ∨ k = 1 ∨ k = 2 ∨ k = 3 ∨ k = 4 ∨ k = 5 ∨ k = 6 ∨ k = 7 ∨ k = 8 ∨ k = 9 ∨ k = 10 ∨ k = 11 ∨ k = 12 ∨ k = 13 ∨ k = 14 ∨ k = 15 ∨ k = 16 ∨ k = 17 ∨ k = 18 ∨ k = 19 by omega) with e0 | e1 | e2 | e3 | e4 | e5 | e6 | e7 | e8 | e9 | e10 | e11 | e12 | e13 | e14 | e15 | e16 | e17 | e18 | e19
        · exact j_swIn (tgt := 136) hx hb dL_law_40 e0 (by decide) (by decide) rfl rfl (lc_feed E hi I hl hP hD hS kk)
        · exact j_swIn (tgt := 209) hx hb dL_law_40 e1 (by decide) (by decide) rfl rfl (lc_end E hi I hl hP hD hS kk)
        · exact j_swIn (tgt := 234) hx hb dL_law_40 e2 (by decide) (by decide) rfl rfl (lc_text E hi I hl hP hD hS kk)
        · exact j_swIn (tgt := 247) hx hb dL_law_40 e3 (by decide) (by decide) rfl rfl (lc_fault E hi I hl hP hD hS kk)
        · exact j_swIn (tgt := 260) hx hb dL_law_40 e4 (by decide) (by decide) rfl rfl (lc_now E hi I hl hP hD hS kk)
        · exact j_swIn (tgt := 285) hx hb dL_law_40 e5 (by decide) (by decide) rfl rfl (lc_shift E hi I hl hP hD hS kk)
        · exact j_swIn (tgt := 353) hx hb dL_law_40 e6 (by decide) (by decide) rfl rfl (lc_pause E hi I hl hP hD hS kk)
        · exact j_swIn (tgt := 421) hx hb dL_law_40 e7 (by decide) (by decide) rfl rfl (lc_slot E hi I hl hP hD hS kk)
        · exact j_swIn (tgt := 470) hx hb dL_law_40 e8 (by decide) (by decide) rfl rfl (lc_why E hi I hl hP hD hS kk)
        · exact j_swIn (tgt := 507) hx hb dL_law_40 e9 (by decide) (by decide) rfl rfl (lc_would E hi I hl hP hD hS kk)
        · exact j_swIn (tgt := 544) hx hb dL_law_40 e10 (by decide) (by decide) rfl rfl (lc_best E hi I hl hP hD hS kk)
        · exact j_swIn (tgt := 569) hx hb dL_law_40 e11 (by decide) (by decide) rfl rfl (lc_better E hi I hl hP hD hS kk)
        · exact j_swIn (tgt := 582) hx hb dL_law_40 e12 (by decide) (by decide) rfl rfl (lc_least E hi I hl hP hD hS kk)
        · exact j_swIn (tgt := 607) hx hb dL_law_40 e13 (by decide) (by decide) rfl rfl (lc_relief E hi I hl hP hD hS kk)
        · exact j_swIn (tgt := 644) hx hb dL_law_40 e14 (by decide) (by decide) rfl rfl (lc_worst E hi I hl hP hD hS kk)
        · exact j_swIn (tgt := 657) hx hb dL_law_40 e15 (by decide) (by decide) rfl rfl (lc_place E hi I hl hP hD hS kk)
        · exact j_swIn (tgt := 694) hx hb dL_law_40 e16 (by decide) (by decide) rfl rfl (lc_take E hi I hl hP hD hS kk)
        · exact j_swIn (tgt := 719) hx hb dL_law_40 e17 (by decide) (by decide) rfl rfl (lc_fill E hi I hl hP hD hS kk)
        · exact j_swIn (tgt := 732) hx hb dL_law_40 e18 (by decide) (by decide) rfl rfl (lc_settle E hi I hl hP hD hS kk)
        · exact j_swIn (tgt := 745) hx hb dL_law_40 e19 (by decide) (by decide) rfl rfl (lc_undo E hi I hl hP hD hS kk)
      · refine j_swOut (tgt := 758) hx hb dL_law_40 ⟨by omega, by omega⟩ (by omega) rfl ?_
        refine W.widen (k := 100 + i + 1) (n := 8000 + 6 * i + 6) (by omega) (by omega) ?_
        exact kk x y fo H locs ls I hl hP hD hS
