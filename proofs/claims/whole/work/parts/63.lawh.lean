/-! the law's shift and pause: the class's answer into the long row, or 1 where it throws -/
def wO (ol : Nat) (C : Nat → ClassId) (f : Nat → Int64) : va_W := [(ol, .inl (C 3, 1, .inr (.inl f)))]
def CLh (SA : Nat → Nat) (l : Launch) (y : MethodName) (ws : List Cond) (fr lo : Nat) (D : va_G) (C : Nat → ClassId) (av : List Value) (w : va_W) (ol : Nat) (f : Nat → Int64) (o : Option Int) : Prop :=
  ∀ sz : Nat, vx_Met l y ws (rmC fr lo 1 6) (va_Pc av (wRE SA D C (w ++ wO ol C f) sz)) (va_Qi (fun r (u : Nat → Int64) => (∃ z, o = some z ∧ R32 z ∧ r = iI 0 ∧ u 0 = lI z) ∨ (o = none ∧ r = iI 1)) (fun u t => va_P D vwCl (wO ol C u) t.heap) (fun q => q = ol ∨ sz ≤ q)) (vx_X (fun _ : Unit => False) (fun _ _ _ => True) (fun _ => False)) 1 6 (fun q => q = ol ∨ sz ≤ q)
theorem one_D {A : Nat → Prop} {ol : Nat} {C : Nat → ClassId} {f : Nat → Int64} (h : A ol) : va_D A (wO ol C f) := by
  refine ⟨fun i j p q hi hj _ => ?_, fun k q hk => ?_⟩
  · have h1 : i < 1 := (List.getElem?_eq_some_iff.mp hi).1
    have h2 : j < 1 := (List.getElem?_eq_some_iff.mp hj).1
    omega
  · have h1 : k < 1 := (List.getElem?_eq_some_iff.mp hk).1
    rw [show k = 0 by omega] at hk
    cases hk
    exact h
theorem kept_P {D : va_G} {w : va_W} {H H1 : Heap} (hP : va_P D vwCl w H) (hk : ∀ q : Nat, q < H.size → ¬ H.size ≤ q → H1[q]? = H[q]?) : va_P D vwCl w H1 := hP.kept (fun k q hq => hk q.1 (hP k q hq).lt (Nat.not_le.mpr (hP k q hq).lt))
theorem good_all {ws : List Cond} (h : ws.all goodWord = true) {big : List Cond} (hm : ∀ w ∈ ws, w ∈ big) : GoodIn big ws := goodIn_sub hm h
def wsL_shiftX : List Cond := .codeWith yL_shift cL_shift 5 (some .int) [(0, 10, 13, 13)] :: (([.classLink RL 13 NSE, .methodLink RL 7 yX6_shift, .instanceMethod yX6_shift, .selects RX6 yX6_shift yX6_shift, .initialized RX6] : List Cond) ++ wsX6_shiftX)
theorem wsX6_shiftX_good : wsX6_shiftX.all goodWord = true := by decide +kernel
set_option maxRecDepth 20000 in
theorem gL_shiftX_X6_shift : GoodIn wsL_shiftX (wsV RL 7 RX6 yX6_shift wsX6_shiftX) := goodIn_app (goodIn_of _ (by decide +kernel)) (good_all wsX6_shiftX_good (fun w h => List.mem_cons_of_mem _ (List.mem_append_right _ h)))
set_option maxHeartbeats 1000000 in
set_option maxRecDepth 20000 in
theorem c_L_shift {SA : Nat → Nat} {l : Launch} (hl0 : l.stackTraces = false) {D : va_G} {C : Nat → ClassId} {q : Nat → Nat} {w : va_W} {g : Int → Int} {lf cn len : Int} (hb9 : BsR q C w g lf cn len) (hg : Wf g) {ss ww : Int} (hs : R32 ss) (hw0 : R32 ww) {ol : Nat} {f : Nat → Int64} (hz : ∀ z, shiftF g ss ww = some z → R32 z) : CLh SA l yL_shift wsL_shiftX 7 104 D C [.ref (q 0), .int (iI ss), .int (iI ww), .ref ol] w ol f (shiftF g ss ww) := by
  intro sz
  refine vx_ofWH (cc := cL_shift) (maxL := 5) (ret := some .int) (hh := [(0, 10, 13, 13)]) (by decide) rfl ?_
  intro p e s m args below meth c s₁ B hml hv
  obtain ⟨rfl, hsz, ⟨hP, hK, hNW⟩, hE⟩ := hv
  have hx := B.exec
  have hb := B.bytes
  have hr := B.returns
  have hts := atoms_spec (ws := wsL_shiftX) B.pre
  have hown : s.vm.findClass RL = some m.cls := findClass_of_methodNamed B.named
  have hlocks := B.notSynchronized
  have htab : c.exceptionTable.toList = tableOf [(0, 10, 13, 13)] := vx_table (x := yL_shift) B (hts _ List.mem_cons_self)
  subst hsz
  have hPw := va_P_left hP
  have hPo := va_P_right hP
  have hS : va_S (fun q => q = ol ∨ s.heap.size ≤ q) s.heap s.heap [] := va_S.rf
  obtain ⟨k0, h0⟩ := hb9.2.1
  have hl := lv_entry [.ref (q 0), .int (iI ss), .int (iI ww), .ref ol] (n := 5) (Nat.le_of_ble_eq_true rfl)
  rw [lg_entry_eq]
  generalize (lg_sl ([.ref (q 0), .int (iI ss), .int (iI ww), .ref ol]) ++ List.replicate (5 - (lg_sl ([.ref (q 0), .int (iI ss), .int (iI ww), .ref ol])).length) Slot.unset).toArray = ls at hl ⊢
  have hl : lv_has ls 5 [(0, .ref (q 0)), (1, .int (iI ss)), (2, .int (iI ww)), (3, .ref ol)] := hl
  refine lv_aload_n hx hb dL_shift_0 rfl (lv_at hl 3 rfl) ?_
  refine lv_iconst (v := iI 0) hx hb dL_shift_1 rfl ?_
  refine lv_aload_n hx hb dL_shift_2 rfl (lv_at hl 0 rfl) ?_
  refine lv_iload_n hx hb dL_shift_3 rfl (lv_at hl 1 rfl) ?_
  refine lv_iload_n hx hb dL_shift_4 rfl (lv_at hl 2 rfl) ?_
  refine vx_calli (vx_runV (As := [.int (iI ss), .int (iI ww)]) (rest := [.int (iI 0), .ref ol]) ⟨hx, hb, hml, hown, hts⟩ (c_X6_shift (SA := SA) (D := D) hl0 hb9 hg hs hw0 s.heap.size) (cwV 2 hts gL_shiftX_X6_shift rfl rfl rfl (by decide +kernel) ⟨Nat.le_of_ble_eq_true rfl, Nat.le_of_ble_eq_true rfl⟩) ⟨wRE_blind SA D C w s.heap.size _, by have hv := va_recv hK hPw (show vwCl[6]? = _ from rfl) h0; exact hv, fun U hU hW => ⟨rfl, by rw [hU], ⟨by rw [hU]; exact hPw, va_K.moved hW.alike hK, NW_warm hNW hW⟩, by rw [hU]; exact EX_go (locs := []) hE va_S.rf (fun _ h => h) hW⟩⟩ rfl rfl hl.1 rfl (lv_room (Nat.le_of_ble_eq_true rfl)) dL_shift_5 ⟨Nat.le_of_ble_eq_true rfl, Nat.le_of_ble_eq_true rfl⟩) hS (fun q _ h => Or.inr h) (fun q h => h.elim) (fun q _ h => Or.inr h) ?_ ?_
  · intro E ce q9 u t H1 locs1 ht hvm hpx hE9 hsz1 hk1 hS1 hce hcv hcl
    subst hE9
    refine vx_catch (own := RL) (name := NSE) hown [] ⟨0, 10, 13, 13⟩ [] htab (fun z h => by cases h) (by decide) (by decide) (hts (.classLink RL 13 NSE) (by decide +kernel)) (va_Nw.use rfl hE.2.2.2.2.2.2) hce hcv hcl ?_
    refine lv_astore (lv' := [(4, .ref q9), (0, .ref (q 0)), (1, .int (iI ss)), (2, .int (iI ww)), (3, .ref ol)]) hx hb dL_shift_13 hl (by decide) rfl (fun ls hl => ?_)
    refine lv_iconst (v := iI 1) hx hb dL_shift_15 rfl ?_
    exact vx_ret (W.iret (v := iI 1) hx hb hr (fun t ht hW => ⟨⟨iI 1, f, rfl, Or.inr ⟨hpx, rfl⟩, by show va_P D vwCl (wO ol C f) t.heap; rw [ht]; exact kept_P hPo hk1⟩, hS1.F ht⟩) hS1.2.2 dL_shift_16)
  · intro r u t H1 locs1 ht hvm hpo _ hsz1 hk1 hS1
    obtain ⟨z, ho, hrz⟩ := hpo
    subst hrz
    refine j_i2l hx hb dL_shift_8 (hz z ho) ?_
    refine va_last (D := D) (i := iI 0) hx hb hK (kept_P hPo hk1) (one_D (Or.inl rfl)) hS1 0 3 rfl rfl (iI_in (by decide) (by decide) (by decide)) dL_shift_9 (fun H2 locs2 hP2 hD2 hS2 => ?_)
    refine lv_goto (tgt := 17) hx hb dL_shift_10 rfl ?_
    refine lv_iconst (v := iI 0) hx hb dL_shift_17 rfl ?_
    exact vx_ret (W.iret (v := iI 0) hx hb hr (fun t ht hW => ⟨⟨iI 0, vp_updL f (iI 0).toNatClampNeg (lI z), rfl, Or.inl ⟨z, ho, hz z ho, rfl, rfl⟩, by show va_P D vwCl (wO ol C (vp_updL f (iI 0).toNatClampNeg (lI z))) t.heap; rw [ht]; exact hP2⟩, hS2.F ht⟩) hS2.2.2 dL_shift_18)
def wsL_pauseX : List Cond := .codeWith yL_pause cL_pause 5 (some .int) [(0, 10, 13, 13)] :: (([.classLink RL 13 NSE, .methodLink RL 15 yX6_pause, .instanceMethod yX6_pause, .selects RX6 yX6_pause yX6_pause, .initialized RX6] : List Cond) ++ wsX6_pauseX)
theorem wsX6_pauseX_good : wsX6_pauseX.all goodWord = true := by decide +kernel
set_option maxRecDepth 20000 in
theorem gL_pauseX_X6_pause : GoodIn wsL_pauseX (wsV RL 15 RX6 yX6_pause wsX6_pauseX) := goodIn_app (goodIn_of _ (by decide +kernel)) (good_all wsX6_pauseX_good (fun w h => List.mem_cons_of_mem _ (List.mem_append_right _ h)))
set_option maxHeartbeats 1000000 in
set_option maxRecDepth 20000 in
theorem c_L_pause {SA : Nat → Nat} {l : Launch} (hl0 : l.stackTraces = false) {D : va_G} {C : Nat → ClassId} {q : Nat → Nat} {w : va_W} {g : Int → Int} {lf cn len : Int} (hb9 : BsR q C w g lf cn len) (hg : Wf g) {kk ww : Int} (hs : R32 kk) (hw0 : R32 ww) {ol : Nat} {f : Nat → Int64} (hz : ∀ z, pauseF g kk ww = some z → R32 z) : CLh SA l yL_pause wsL_pauseX 7 104 D C [.ref (q 0), .int (iI kk), .int (iI ww), .ref ol] w ol f (pauseF g kk ww) := by
  intro sz
  refine vx_ofWH (cc := cL_pause) (maxL := 5) (ret := some .int) (hh := [(0, 10, 13, 13)]) (by decide) rfl ?_
  intro p e s m args below meth c s₁ B hml hv
  obtain ⟨rfl, hsz, ⟨hP, hK, hNW⟩, hE⟩ := hv
  have hx := B.exec
  have hb := B.bytes
  have hr := B.returns
  have hts := atoms_spec (ws := wsL_pauseX) B.pre
  have hown : s.vm.findClass RL = some m.cls := findClass_of_methodNamed B.named
  have hlocks := B.notSynchronized
  have htab : c.exceptionTable.toList = tableOf [(0, 10, 13, 13)] := vx_table (x := yL_pause) B (hts _ List.mem_cons_self)
  subst hsz
  have hPw := va_P_left hP
  have hPo := va_P_right hP
  have hS : va_S (fun q => q = ol ∨ s.heap.size ≤ q) s.heap s.heap [] := va_S.rf
  obtain ⟨k0, h0⟩ := hb9.2.1
  have hl := lv_entry [.ref (q 0), .int (iI kk), .int (iI ww), .ref ol] (n := 5) (Nat.le_of_ble_eq_true rfl)
  rw [lg_entry_eq]
  generalize (lg_sl ([.ref (q 0), .int (iI kk), .int (iI ww), .ref ol]) ++ List.replicate (5 - (lg_sl ([.ref (q 0), .int (iI kk), .int (iI ww), .ref ol])).length) Slot.unset).toArray = ls at hl ⊢
  have hl : lv_has ls 5 [(0, .ref (q 0)), (1, .int (iI kk)), (2, .int (iI ww)), (3, .ref ol)] := hl
  refine lv_aload_n hx hb dL_pause_0 rfl (lv_at hl 3 rfl) ?_
  refine lv_iconst (v := iI 0) hx hb dL_pause_1 rfl ?_
  refine lv_aload_n hx hb dL_pause_2 rfl (lv_at hl 0 rfl) ?_
  refine lv_iload_n hx hb dL_pause_3 rfl (lv_at hl 1 rfl) ?_
  refine lv_iload_n hx hb dL_pause_4 rfl (lv_at hl 2 rfl) ?_
  refine vx_calli (vx_runV (As := [.int (iI kk), .int (iI ww)]) (rest := [.int (iI 0), .ref ol]) ⟨hx, hb, hml, hown, hts⟩ (c_X6_pause (SA := SA) (D := D) hl0 hb9 hg hs hw0 s.heap.size) (cwV 2 hts gL_pauseX_X6_pause rfl rfl rfl (by decide +kernel) ⟨Nat.le_of_ble_eq_true rfl, Nat.le_of_ble_eq_true rfl⟩) ⟨wRE_blind SA D C w s.heap.size _, by have hv := va_recv hK hPw (show vwCl[6]? = _ from rfl) h0; exact hv, fun U hU hW => ⟨rfl, by rw [hU], ⟨by rw [hU]; exact hPw, va_K.moved hW.alike hK, NW_warm hNW hW⟩, by rw [hU]; exact EX_go (locs := []) hE va_S.rf (fun _ h => h) hW⟩⟩ rfl rfl hl.1 rfl (lv_room (Nat.le_of_ble_eq_true rfl)) dL_pause_5 ⟨Nat.le_of_ble_eq_true rfl, Nat.le_of_ble_eq_true rfl⟩) hS (fun q _ h => Or.inr h) (fun q h => h.elim) (fun q _ h => Or.inr h) ?_ ?_
  · intro E ce q9 u t H1 locs1 ht hvm hpx hE9 hsz1 hk1 hS1 hce hcv hcl
    subst hE9
    refine vx_catch (own := RL) (name := NSE) hown [] ⟨0, 10, 13, 13⟩ [] htab (fun z h => by cases h) (by decide) (by decide) (hts (.classLink RL 13 NSE) (by decide +kernel)) (va_Nw.use rfl hE.2.2.2.2.2.2) hce hcv hcl ?_
    refine lv_astore (lv' := [(4, .ref q9), (0, .ref (q 0)), (1, .int (iI kk)), (2, .int (iI ww)), (3, .ref ol)]) hx hb dL_pause_13 hl (by decide) rfl (fun ls hl => ?_)
    refine lv_iconst (v := iI 1) hx hb dL_pause_15 rfl ?_
    exact vx_ret (W.iret (v := iI 1) hx hb hr (fun t ht hW => ⟨⟨iI 1, f, rfl, Or.inr ⟨hpx, rfl⟩, by show va_P D vwCl (wO ol C f) t.heap; rw [ht]; exact kept_P hPo hk1⟩, hS1.F ht⟩) hS1.2.2 dL_pause_16)
  · intro r u t H1 locs1 ht hvm hpo _ hsz1 hk1 hS1
    obtain ⟨z, ho, hrz⟩ := hpo
    subst hrz
    refine j_i2l hx hb dL_pause_8 (hz z ho) ?_
    refine va_last (D := D) (i := iI 0) hx hb hK (kept_P hPo hk1) (one_D (Or.inl rfl)) hS1 0 3 rfl rfl (iI_in (by decide) (by decide) (by decide)) dL_pause_9 (fun H2 locs2 hP2 hD2 hS2 => ?_)
    refine lv_goto (tgt := 17) hx hb dL_pause_10 rfl ?_
    refine lv_iconst (v := iI 0) hx hb dL_pause_17 rfl ?_
    exact vx_ret (W.iret (v := iI 0) hx hb hr (fun t ht hW => ⟨⟨iI 0, vp_updL f (iI 0).toNatClampNeg (lI z), rfl, Or.inl ⟨z, ho, hz z ho, rfl, rfl⟩, by show va_P D vwCl (wO ol C (vp_updL f (iI 0).toNatClampNeg (lI z))) t.heap; rw [ht]; exact hP2⟩, hS2.F ht⟩) hS2.2.2 dL_pause_18)
