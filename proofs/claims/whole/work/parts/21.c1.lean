/-- a plan as the class keeps it, for a row g; and where its pauses are -/
def PlW (q : Nat → Nat) (C : Nat → ClassId) (w : va_W) (g : Int → Int) : Prop := (∃ (k : Nat) (ln nd : Int), w[k]? = some (q 16, .inr (1, [.int (iI (g 0)), .int (iI (g 1)), .int (iI ln), .int (iI nd), .int (iI (g 2)), .int (iI (g 3)), .ref (q 17), .ref (q 18), .ref (q 19), .ref (q 20), .ref (q 21), .ref (q 22), .ref (q 23), .ref (q 24), .ref (q 25), .ref (q 26), .ref (q 27)]))) ∧ (∃ (k : Nat) (f : Int → Int), w[k]? = some (q 17, .inl (C 1, 144, .inl (aI f))) ∧ ∀ c : Int, 0 ≤ c → c < 144 → f c = g (4 + c)) ∧ (∃ (k : Nat) (f : Int → Int), w[k]? = some (q 18, .inl (C 1, 144, .inl (aI f))) ∧ ∀ c : Int, 0 ≤ c → c < 144 → f c = dtc g c) ∧ (∃ (k : Nat) (f : Int → Int), w[k]? = some (q 19, .inl (C 1, 8, .inl (aI f))) ∧ ∀ s : Int, 0 ≤ s → s < g 2 → f s = g (148 + 5 * s)) ∧ (∃ (k : Nat) (f : Int → Int), w[k]? = some (q 20, .inl (C 1, 8, .inl (aI f))) ∧ ∀ s : Int, 0 ≤ s → s < g 2 → f s = g (149 + 5 * s)) ∧ (∃ (k : Nat) (f : Int → Int), w[k]? = some (q 21, .inl (C 1, 8, .inl (aI f))) ∧ ∀ s : Int, 0 ≤ s → s < g 2 → f s = g (150 + 5 * s)) ∧ (∃ (k : Nat) (f : Int → Int), w[k]? = some (q 22, .inl (C 1, 8, .inl (aI f))) ∧ ∀ s : Int, 0 ≤ s → s < g 2 → f s = g (151 + 5 * s)) ∧ (∃ (k : Nat) (f : Int → Int), w[k]? = some (q 23, .inl (C 1, 8, .inl (aI f))) ∧ ∀ s : Int, 0 ≤ s → s < g 2 → f s = g (152 + 5 * s)) ∧ (∃ (k : Nat) (f : Int → Int), w[k]? = some (q 24, .inl (C 1, 24, .inl (aI f))) ∧ ∀ s : Int, 0 ≤ s → s < g 3 → f s = g (188 + 5 * s)) ∧ (∃ (k : Nat) (f : Int → Int), w[k]? = some (q 25, .inl (C 1, 24, .inl (aI f))) ∧ ∀ s : Int, 0 ≤ s → s < g 3 → f s = g (189 + 5 * s)) ∧ (∃ (k : Nat) (f : Int → Int), w[k]? = some (q 26, .inl (C 1, 24, .inl (aI f))) ∧ ∀ s : Int, 0 ≤ s → s < g 3 → f s = g (190 + 5 * s)) ∧ (∃ (k : Nat) (f : Int → Int), w[k]? = some (q 27, .inl (C 1, 24, .inl (aI f))) ∧ ∀ s : Int, 0 ≤ s → s < g 3 → f s = g (191 + 5 * s))
def ShW (q : Nat → Nat) (C : Nat → ClassId) (w : va_W) (g cv : Int → Int) : Prop := PlW q C w g ∧ (∃ (k : Nat) (sf : Int), w[k]? = some (q 28, .inr (3, [.ref (q 16), .ref (q 29), .ref (q 30), .int (iI sf)]))) ∧ (∃ k : Nat, w[k]? = some (q 30, .inl (C 1, 144, .inl (aI cv))))
def RoW (q : Nat → Nat) (C : Nat → ClassId) (w : va_W) (g : Int → Int) : Prop := PlW q C w g ∧ (∃ k : Nat, w[k]? = some (q 28, .inr (3, [.ref (q 16), .ref (q 29), .ref (q 30), .int (iI (SF g))]))) ∧ (∃ (k : Nat) (f : Int → Int), w[k]? = some (q 29, .inl (C 1, 24, .inl (aI f))) ∧ ∀ k : Int, 0 ≤ k → k < 24 → f k = g (192 + 5 * k) - 1) ∧ (∃ (k : Nat) (f : Int → Int), w[k]? = some (q 30, .inl (C 1, 144, .inl (aI f))) ∧ ∀ c : Int, 0 ≤ c → c < 144 → f c = cvc g c)
theorem sm_at {f : Int → Int} {a i : Int} (h : a ≤ i) : sm (fun j => f (a + j)) (i + 1 - a).toNat = sm (fun j => f (a + j)) (i - a).toNat + f i := by
  rw [show (i + 1 - a).toNat = (i - a).toNat + 1 by omega]
  show sm (fun j => f (a + j)) (i - a).toNat + f (a + (((i - a).toNat : Nat) : Int)) = _
  rw [show a + (((i - a).toNat : Nat) : Int) = i by omega]
theorem cvc_own0 {g : Int → Int} (h : Wf g) {k : Int} (h0 : 0 ≤ k) (h1 : k < g 3) (hz : g (192 + 5 * k) = 0) {c : Int} : cvc (lie g k (-1)) c = cvc g c := by rw [lie_idz hz]
theorem SF_loss {g : Int → Int} (h : Wf g) {k t : Int} (h0 : 0 ≤ k) (h1 : k < g 3) (ht : g (190 + 5 * k) ≤ t ∧ t ≤ g (191 + 5 * k)) : SF (lie g k t) - SF (lie g k (-1)) = sm (fun i => llo g (lie g k (-1)) (pk g k * 48 + t + i)) (g (189 + 5 * k)).toNat := by
  have w := Wf_p h h0 h1
  have pr := pk_rng h h0 h1
  have wg := Wf_lie h h0 h1 (t := -1) (Or.inl rfl)
  have e := SF_lie wg (k := k) (t := t) h0 (by rw [lie_lo h0 (by omega)]; exact h1) (by rw [lie_s]; rfl) (by rw [lie_a.2.2.1, lie_a.2.2.2]; exact ht)
  rw [lie_lie, pk_lie h0 (by omega), lie_a.2.1] at e
  rw [e]
  unfold lossN
  rw [sm_cong (f := fun i => bI (cvc (lie g k (-1)) (pk g k * 48 + t + i) ≤ lie g k (-1) (4 + (pk g k * 48 + t + i)))) (g := fun i => llo g (lie g k (-1)) (pk g k * 48 + t + i)) (n := (g (189 + 5 * k)).toNat) (fun i i0 i1 => by unfold llo; rw [lie_lo h0 (by omega)])]
  omega
set_option maxHeartbeats 4000000 in
set_option maxRecDepth 100000 in
theorem c_X6_cellOf {l : Launch} {D : va_G} {C : Nat → ClassId} {w : va_W} {pp tt : Int} : CR l yX6_cellOf wsX6_cellOf 0 0 D C [.int (iI (pp)), .int (iI (tt))] (w) (.int (iI (pp * 48 + tt))) := by
  refine CR_of (cc := cX6_cellOf) (maxL := 2) (by decide) rfl (Nat.le_of_ble_eq_true rfl) ?_
  intro p e s m below meth c Q ls hx hb hml hown hts hK hNW hl hP hret
  have hl : lv_has ls 2 [(0, .int (iI (pp))), (1, .int (iI (tt)))] := hl
  refine lv_iload_n hx hb dX6_cellOf_0 rfl (lv_at hl 0 rfl) ?_
  refine lv_bipush (v := iI (48)) hx hb dX6_cellOf_1 (by decide) ?_
  refine j_imul hx hb dX6_cellOf_3 ?_
  refine lv_iload_n hx hb dX6_cellOf_4 rfl (lv_at hl 1 rfl) ?_
  refine j_iadd hx hb dX6_cellOf_5 ?_
  exact hret ls 6 _ dX6_cellOf_6 rfl

set_option maxHeartbeats 4000000 in
set_option maxRecDepth 100000 in
theorem c_X6_isSlot {l : Launch} {D : va_G} {C : Nat → ClassId} {w : va_W} {vv : Int} (h1 : R32 vv) : CR l yX6_isSlot wsX6_isSlot 0 0 D C [.int (iI (vv))] (w) (.int (iI (bI (0 ≤ vv ∧ vv < 48)))) := by
  refine CRZ_of (cc := cX6_isSlot) (maxL := 1) (by decide) rfl (Nat.le_of_ble_eq_true rfl) (bI_01 _) ?_
  intro p e s m below meth c Q ls hx hb hml hown hts hK hNW hl hP hret
  have hl : lv_has ls 1 [(0, .int (iI (vv)))] := hl
  refine lv_iload_n hx hb dX6_isSlot_0 rfl (lv_at hl 0 rfl) ?_
  refine j_if_lt (tgt := 14) hx hb dX6_isSlot_1 rfl h1 (fun c1 => ?_) (fun c1 => ?_)
  · skip
    refine lv_iconst (v := iI (0)) hx hb dX6_isSlot_14 rfl ?_
    exact hret ls 15 _ dX6_isSlot_15 (by rw [bI_f (by omega)])
  · skip
    refine lv_iload_n hx hb dX6_isSlot_4 rfl (lv_at hl 0 rfl) ?_
    refine lv_bipush (v := iI (48)) hx hb dX6_isSlot_5 (by decide) ?_
    refine j_icmp_ge (tgt := 14) hx hb dX6_isSlot_7 rfl h1 ⟨by decide, by decide⟩ (fun c7 => ?_) (fun c7 => ?_)
    · skip
      refine lv_iconst (v := iI (0)) hx hb dX6_isSlot_14 rfl ?_
      exact hret ls 15 _ dX6_isSlot_15 (by rw [bI_f (by omega)])
    · skip
      refine lv_iconst (v := iI (1)) hx hb dX6_isSlot_10 rfl ?_
      refine lv_goto (tgt := 15) hx hb dX6_isSlot_11 rfl ?_
      exact hret ls 15 _ dX6_isSlot_15 (by rw [bI_t ⟨by omega, by omega⟩])

set_option maxHeartbeats 4000000 in
set_option maxRecDepth 100000 in
theorem c_X1_hasPost {l : Launch} {D : va_G} {C : Nat → ClassId} {q : Nat → Nat} {w : va_W} {g : Int → Int} (hw : PlW q C w g) (hg : Wf g) {vv : Int} (h1 : R32 vv) : CR l yX1_hasPost wsX1_hasPost 0 0 D C [.ref (q 16), .int (iI (vv))] (w) (.int (iI (bI (0 ≤ vv ∧ vv < g 0)))) := by
  obtain ⟨⟨k16, ln, nd, h16⟩, ⟨k17, f17, h17, e17⟩, ⟨k18, f18, h18, e18⟩, ⟨k19, f19, h19, e19⟩, ⟨k20, f20, h20, e20⟩, ⟨k21, f21, h21, e21⟩, ⟨k22, f22, h22, e22⟩, ⟨k23, f23, h23, e23⟩, ⟨k24, f24, h24, e24⟩, ⟨k25, f25, h25, e25⟩, ⟨k26, f26, h26, e26⟩, ⟨k27, f27, h27, e27⟩⟩ := id hw
  refine CRZ_of (cc := cX1_hasPost) (maxL := 2) (by decide) rfl (Nat.le_of_ble_eq_true rfl) (bI_01 _) ?_
  intro p e s m below meth c Q ls hx hb hml hown hts hK hNW hl hP hret
  have hl : lv_has ls 2 [(0, .ref (q 16)), (1, .int (iI (vv)))] := hl
  have n := Wf_n hg
  refine lv_iload_n hx hb dX1_hasPost_0 rfl (lv_at hl 1 rfl) ?_
  refine j_if_lt (tgt := 16) hx hb dX1_hasPost_1 rfl h1 (fun c1 => ?_) (fun c1 => ?_)
  · skip
    refine lv_iconst (v := iI (0)) hx hb dX1_hasPost_16 rfl ?_
    exact hret ls 17 _ dX1_hasPost_17 (by rw [bI_f (by omega)])
  · skip
    refine lv_iload_n hx hb dX1_hasPost_4 rfl (lv_at hl 1 rfl) ?_
    refine lv_aload_n hx hb dX1_hasPost_5 rfl (lv_at hl 0 rfl) ?_
    refine va_get (D := D) (ci := 1) (v := .int (iI (g 0))) (C := RX1) (T := TX1) (N := 17) hx hb hts (by decide +kernel) hown hK hP k16 h16 rfl 0 (by decide) (hts (.fieldLink RX1 9 "BreakSetter$Plan" "posts" "I") (by decide +kernel)) (fun _ h9 => h9) rfl dX1_hasPost_6 ?_
    refine j_icmp_ge (tgt := 16) hx hb dX1_hasPost_9 rfl h1 ⟨by omega, by omega⟩ (fun c9 => ?_) (fun c9 => ?_)
    · skip
      refine lv_iconst (v := iI (0)) hx hb dX1_hasPost_16 rfl ?_
      exact hret ls 17 _ dX1_hasPost_17 (by rw [bI_f (by omega)])
    · skip
      refine lv_iconst (v := iI (1)) hx hb dX1_hasPost_12 rfl ?_
      refine lv_goto (tgt := 17) hx hb dX1_hasPost_13 rfl ?_
      exact hret ls 17 _ dX1_hasPost_17 (by rw [bI_t ⟨by omega, by omega⟩])

set_option maxHeartbeats 4000000 in
set_option maxRecDepth 100000 in
theorem c_X1_hasShift {l : Launch} {D : va_G} {C : Nat → ClassId} {q : Nat → Nat} {w : va_W} {g : Int → Int} (hw : PlW q C w g) (hg : Wf g) {vv : Int} (h1 : R32 vv) : CR l yX1_hasShift wsX1_hasShift 0 0 D C [.ref (q 16), .int (iI (vv))] (w) (.int (iI (bI (0 ≤ vv ∧ vv < g 2)))) := by
  obtain ⟨⟨k16, ln, nd, h16⟩, ⟨k17, f17, h17, e17⟩, ⟨k18, f18, h18, e18⟩, ⟨k19, f19, h19, e19⟩, ⟨k20, f20, h20, e20⟩, ⟨k21, f21, h21, e21⟩, ⟨k22, f22, h22, e22⟩, ⟨k23, f23, h23, e23⟩, ⟨k24, f24, h24, e24⟩, ⟨k25, f25, h25, e25⟩, ⟨k26, f26, h26, e26⟩, ⟨k27, f27, h27, e27⟩⟩ := id hw
  refine CRZ_of (cc := cX1_hasShift) (maxL := 2) (by decide) rfl (Nat.le_of_ble_eq_true rfl) (bI_01 _) ?_
  intro p e s m below meth c Q ls hx hb hml hown hts hK hNW hl hP hret
  have hl : lv_has ls 2 [(0, .ref (q 16)), (1, .int (iI (vv)))] := hl
  have n := Wf_n hg
  refine lv_iload_n hx hb dX1_hasShift_0 rfl (lv_at hl 1 rfl) ?_
  refine j_if_lt (tgt := 16) hx hb dX1_hasShift_1 rfl h1 (fun c1 => ?_) (fun c1 => ?_)
  · skip
    refine lv_iconst (v := iI (0)) hx hb dX1_hasShift_16 rfl ?_
    exact hret ls 17 _ dX1_hasShift_17 (by rw [bI_f (by omega)])
  · skip
    refine lv_iload_n hx hb dX1_hasShift_4 rfl (lv_at hl 1 rfl) ?_
    refine lv_aload_n hx hb dX1_hasShift_5 rfl (lv_at hl 0 rfl) ?_
    refine va_get (D := D) (ci := 1) (v := .int (iI (g 2))) (C := RX1) (T := TX1) (N := 17) hx hb hts (by decide +kernel) hown hK hP k16 h16 rfl 4 (by decide) (hts (.fieldLink RX1 58 "BreakSetter$Plan" "shifts" "I") (by decide +kernel)) (fun _ h9 => h9) rfl dX1_hasShift_6 ?_
    refine j_icmp_ge (tgt := 16) hx hb dX1_hasShift_9 rfl h1 ⟨by omega, by omega⟩ (fun c9 => ?_) (fun c9 => ?_)
    · skip
      refine lv_iconst (v := iI (0)) hx hb dX1_hasShift_16 rfl ?_
      exact hret ls 17 _ dX1_hasShift_17 (by rw [bI_f (by omega)])
    · skip
      refine lv_iconst (v := iI (1)) hx hb dX1_hasShift_12 rfl ?_
      refine lv_goto (tgt := 17) hx hb dX1_hasShift_13 rfl ?_
      exact hret ls 17 _ dX1_hasShift_17 (by rw [bI_t ⟨by omega, by omega⟩])

set_option maxHeartbeats 4000000 in
set_option maxRecDepth 100000 in
theorem c_X1_hasPause {l : Launch} {D : va_G} {C : Nat → ClassId} {q : Nat → Nat} {w : va_W} {g : Int → Int} (hw : PlW q C w g) (hg : Wf g) {vv : Int} (h1 : R32 vv) : CR l yX1_hasPause wsX1_hasPause 0 0 D C [.ref (q 16), .int (iI (vv))] (w) (.int (iI (bI (0 ≤ vv ∧ vv < g 3)))) := by
  obtain ⟨⟨k16, ln, nd, h16⟩, ⟨k17, f17, h17, e17⟩, ⟨k18, f18, h18, e18⟩, ⟨k19, f19, h19, e19⟩, ⟨k20, f20, h20, e20⟩, ⟨k21, f21, h21, e21⟩, ⟨k22, f22, h22, e22⟩, ⟨k23, f23, h23, e23⟩, ⟨k24, f24, h24, e24⟩, ⟨k25, f25, h25, e25⟩, ⟨k26, f26, h26, e26⟩, ⟨k27, f27, h27, e27⟩⟩ := id hw
  refine CRZ_of (cc := cX1_hasPause) (maxL := 2) (by decide) rfl (Nat.le_of_ble_eq_true rfl) (bI_01 _) ?_
  intro p e s m below meth c Q ls hx hb hml hown hts hK hNW hl hP hret
  have hl : lv_has ls 2 [(0, .ref (q 16)), (1, .int (iI (vv)))] := hl
  have n := Wf_n hg
  refine lv_iload_n hx hb dX1_hasPause_0 rfl (lv_at hl 1 rfl) ?_
  refine j_if_lt (tgt := 16) hx hb dX1_hasPause_1 rfl h1 (fun c1 => ?_) (fun c1 => ?_)
  · skip
    refine lv_iconst (v := iI (0)) hx hb dX1_hasPause_16 rfl ?_
    exact hret ls 17 _ dX1_hasPause_17 (by rw [bI_f (by omega)])
  · skip
    refine lv_iload_n hx hb dX1_hasPause_4 rfl (lv_at hl 1 rfl) ?_
    refine lv_aload_n hx hb dX1_hasPause_5 rfl (lv_at hl 0 rfl) ?_
    refine va_get (D := D) (ci := 1) (v := .int (iI (g 3))) (C := RX1) (T := TX1) (N := 17) hx hb hts (by decide +kernel) hown hK hP k16 h16 rfl 5 (by decide) (hts (.fieldLink RX1 61 "BreakSetter$Plan" "pauses" "I") (by decide +kernel)) (fun _ h9 => h9) rfl dX1_hasPause_6 ?_
    refine j_icmp_ge (tgt := 16) hx hb dX1_hasPause_9 rfl h1 ⟨by omega, by omega⟩ (fun c9 => ?_) (fun c9 => ?_)
    · skip
      refine lv_iconst (v := iI (0)) hx hb dX1_hasPause_16 rfl ?_
      exact hret ls 17 _ dX1_hasPause_17 (by rw [bI_f (by omega)])
    · skip
      refine lv_iconst (v := iI (1)) hx hb dX1_hasPause_12 rfl ?_
      refine lv_goto (tgt := 17) hx hb dX1_hasPause_13 rfl ?_
      exact hret ls 17 _ dX1_hasPause_17 (by rw [bI_t ⟨by omega, by omega⟩])

set_option maxHeartbeats 4000000 in
set_option maxRecDepth 100000 in
theorem c_X1_cellOfPause {l : Launch} {D : va_G} {C : Nat → ClassId} {q : Nat → Nat} {w : va_W} {g : Int → Int} (hw : PlW q C w g) (hg : Wf g) {kk tt : Int} (hk : 0 ≤ kk ∧ kk < g 3) : CR l yX1_cellOfPause wsX1_cellOfPause 1 21 D C [.ref (q 16), .int (iI (kk)), .int (iI (tt))] (w) (.int (iI (pk g kk * 48 + tt))) := by
  obtain ⟨⟨k16, ln, nd, h16⟩, ⟨k17, f17, h17, e17⟩, ⟨k18, f18, h18, e18⟩, ⟨k19, f19, h19, e19⟩, ⟨k20, f20, h20, e20⟩, ⟨k21, f21, h21, e21⟩, ⟨k22, f22, h22, e22⟩, ⟨k23, f23, h23, e23⟩, ⟨k24, f24, h24, e24⟩, ⟨k25, f25, h25, e25⟩, ⟨k26, f26, h26, e26⟩, ⟨k27, f27, h27, e27⟩⟩ := id hw
  refine CR_of (cc := cX1_cellOfPause) (maxL := 3) (by decide) rfl (Nat.le_of_ble_eq_true rfl) ?_
  intro p e s m below meth c Q ls hx hb hml hown hts hK hNW hl hP hret
  have hl : lv_has ls 3 [(0, .ref (q 16)), (1, .int (iI (kk))), (2, .int (iI (tt)))] := hl
  have n := Wf_n hg
  have b := Wf_p hg hk.1 hk.2
  refine lv_aload_n hx hb dX1_cellOfPause_0 rfl (lv_at hl 0 rfl) ?_
  refine va_get (D := D) (ci := 1) (v := .ref (q 19)) (C := RX1) (T := TX1) (N := 17) hx hb hts (by decide +kernel) hown hK hP k16 h16 rfl 8 (by decide) (hts (.fieldLink RX1 25 "BreakSetter$Plan" "shiftPost" "[I") (by decide +kernel)) (fun _ h9 => h9) rfl dX1_cellOfPause_1 ?_
  refine lv_aload_n hx hb dX1_cellOfPause_4 rfl (lv_at hl 0 rfl) ?_
  refine va_get (D := D) (ci := 1) (v := .ref (q 24)) (C := RX1) (T := TX1) (N := 17) hx hb hts (by decide +kernel) hown hK hP k16 h16 rfl 13 (by decide) (hts (.fieldLink RX1 40 "BreakSetter$Plan" "pauseShift" "[I") (by decide +kernel)) (fun _ h9 => h9) rfl dX1_cellOfPause_5 ?_
  refine lv_iload_n hx hb dX1_cellOfPause_8 rfl (lv_at hl 1 rfl) ?_
  refine j_iald hx hb hK hP k24 1 h24 rfl ⟨by omega, by omega⟩ (Nat.le_of_ble_eq_true rfl) dX1_cellOfPause_9 ?_
  refine W_wen (y := iI (g (188 + 5 * kk))) (congrArg iI (e24 kk (by omega) (by omega))) ?_
  refine j_iald hx hb hK hP k19 1 h19 rfl ⟨by omega, by omega⟩ (Nat.le_of_ble_eq_true rfl) dX1_cellOfPause_10 ?_
  refine W_wen (y := iI (g (148 + 5 * (g (188 + 5 * kk))))) (congrArg iI (e19 (g (188 + 5 * kk)) (by omega) (by omega))) ?_
  refine lv_iload_n hx hb dX1_cellOfPause_11 rfl (lv_at hl 2 rfl) ?_
  refine CR_callN (As := [.int (iI (g (148 + 5 * (g (188 + 5 * kk))))), .int (iI (tt))]) (rest := []) ⟨hx, hb, hml, hown, hts⟩ c_X6_cellOf ⟨va_cnB 2 hts ggX1_cellOfPause_X6_cellOf rfl rfl rfl hNW.1 (hts (.initialized RX6) (by decide +kernel)) (by decide +kernel) ⟨Nat.le_of_ble_eq_true rfl, Nat.le_of_ble_eq_true rfl⟩, hts (.static yX6_cellOf) (by decide +kernel), trivial⟩ hK hNW hP rfl hl.1 rfl (Nat.le_of_ble_eq_true rfl) dX1_cellOfPause_12 ⟨Nat.zero_le _, Nat.zero_le _⟩ ?_
  exact hret ls 15 _ dX1_cellOfPause_15 rfl

set_option maxHeartbeats 4000000 in
set_option maxRecDepth 100000 in
theorem c_X3_shortOfG {l : Launch} {D : va_G} {C : Nat → ClassId} {q : Nat → Nat} {w : va_W} {g cvv : Int → Int} (hw : ShW q C w g cvv) (hg : Wf g) {cl : Int} (hc : 0 ≤ cl ∧ cl < 144) (hcv : -200 ≤ cvv cl ∧ cvv cl ≤ 200) : CR l yX3_shortOf wsX3_shortOf 1 30 D C [.ref (q 28), .int (iI (cl))] (w) (.int (iI (max (g (4 + cl) - cvv cl) 0))) := by
  obtain ⟨⟨⟨k16, ln, nd, h16⟩, ⟨k17, f17, h17, e17⟩, ⟨k18, f18, h18, e18⟩, ⟨k19, f19, h19, e19⟩, ⟨k20, f20, h20, e20⟩, ⟨k21, f21, h21, e21⟩, ⟨k22, f22, h22, e22⟩, ⟨k23, f23, h23, e23⟩, ⟨k24, f24, h24, e24⟩, ⟨k25, f25, h25, e25⟩, ⟨k26, f26, h26, e26⟩, ⟨k27, f27, h27, e27⟩⟩, ⟨k28, sfx, h28⟩, ⟨k30, h30⟩⟩ := id hw
  refine CR_of (cc := cX3_shortOf) (maxL := 2) (by decide) rfl (Nat.le_of_ble_eq_true rfl) ?_
  intro p e s m below meth c Q ls hx hb hml hown hts hK hNW hl hP hret
  have hl : lv_has ls 2 [(0, .ref (q 28)), (1, .int (iI (cl)))] := hl
  have b := Wf_need hg hc.1 hc.2
  refine lv_aload_n hx hb dX3_shortOf_0 rfl (lv_at hl 0 rfl) ?_
  refine va_get (D := D) (ci := 3) (v := .ref (q 16)) (C := RX3) (T := TX3) (N := 4) hx hb hts (by decide +kernel) hown hK hP k28 h28 rfl 0 (by decide) (hts (.fieldLink RX3 9 "BreakSetter$Roster" "plan" "LBreakSetter$Plan;") (by decide +kernel)) (fun _ h9 => h9) rfl dX3_shortOf_1 ?_
  refine va_get (D := D) (ci := 1) (v := .ref (q 17)) (C := RX1) (T := TX1) (N := 17) hx hb hts (by decide +kernel) hown hK hP k16 h16 rfl 6 (by decide) (hts (.fieldLink RX3 57 "BreakSetter$Plan" "need" "[I") (by decide +kernel)) (fun _ h9 => h9) rfl dX3_shortOf_4 ?_
  refine lv_iload_n hx hb dX3_shortOf_7 rfl (lv_at hl 1 rfl) ?_
  refine j_iald hx hb hK hP k17 1 h17 rfl ⟨by omega, by omega⟩ (Nat.le_of_ble_eq_true rfl) dX3_shortOf_8 ?_
  refine W_wen (y := iI (g (4 + cl))) (congrArg iI (e17 cl (by omega) (by omega))) ?_
  refine lv_aload_n hx hb dX3_shortOf_9 rfl (lv_at hl 0 rfl) ?_
  refine va_get (D := D) (ci := 3) (v := .ref (q 30)) (C := RX3) (T := TX3) (N := 4) hx hb hts (by decide +kernel) hown hK hP k28 h28 rfl 2 (by decide) (hts (.fieldLink RX3 19 "BreakSetter$Roster" "cover" "[I") (by decide +kernel)) (fun _ h9 => h9) rfl dX3_shortOf_10 ?_
  refine lv_iload_n hx hb dX3_shortOf_13 rfl (lv_at hl 1 rfl) ?_
  refine j_iald hx hb hK hP k30 1 h30 rfl ⟨by omega, by omega⟩ (Nat.le_of_ble_eq_true rfl) dX3_shortOf_14 ?_
  refine j_isub hx hb dX3_shortOf_15 ?_
  refine lv_iconst (v := iI (0)) hx hb dX3_shortOf_16 rfl ?_
  refine j_mmax hx hb (by rw [hml]; exact hl.1.symm) hown (hts (.methodLink RX3 60 Lib.Math.max.name) (by decide +kernel)) (hts (.static Lib.Math.max.name) (by decide +kernel)) (hts (.initialized "java/lang/Math") (by decide +kernel)) (hts (.code Lib.Math.max.name Lib.Math.max.code 2 (some .int)) (by decide +kernel)) (Nat.le_of_ble_eq_true rfl) (Nat.le_of_ble_eq_true rfl) (Nat.zero_le _) (Nat.zero_le _) ⟨by omega, by omega⟩ ⟨by decide, by decide⟩ dX3_shortOf_17 ?_
  exact hret ls 20 _ dX3_shortOf_20 rfl

theorem c_X3_shortOf {l : Launch} {D : va_G} {C : Nat → ClassId} {q : Nat → Nat} {w : va_W} {g : Int → Int} (hw : RoW q C w g) (hg : Wf g) {cl : Int} (hc : 0 ≤ cl ∧ cl < 144) : CR l yX3_shortOf wsX3_shortOf 1 30 D C [.ref (q 28), .int (iI (cl))] (w) (.int (iI (shc g cl))) := by
  obtain ⟨hp, ⟨k28, h28⟩, -, ⟨k30, f30, h30, e30⟩⟩ := hw
  have b := cvc_rng hg cl
  have e : f30 cl = cvc g cl := e30 cl hc.1 hc.2
  have z := c_X3_shortOfG (l := l) (D := D) (cvv := f30) ⟨hp, ⟨k28, _, h28⟩, ⟨k30, h30⟩⟩ hg hc (by omega)
  rw [e] at z
  exact z

set_option maxHeartbeats 4000000 in
set_option maxRecDepth 100000 in
theorem c_X3_countPlaced {l : Launch} {D : va_G} {C : Nat → ClassId} {q : Nat → Nat} {w : va_W} {g : Int → Int} (hw : RoW q C w g) (hg : Wf g)  : CR l yX3_countPlaced wsX3_countPlaced 0 0 D C [.ref (q 28)] (w) (.int (iI (plc g))) := by
  obtain ⟨⟨⟨k16, ln, nd, h16⟩, ⟨k17, f17, h17, e17⟩, ⟨k18, f18, h18, e18⟩, ⟨k19, f19, h19, e19⟩, ⟨k20, f20, h20, e20⟩, ⟨k21, f21, h21, e21⟩, ⟨k22, f22, h22, e22⟩, ⟨k23, f23, h23, e23⟩, ⟨k24, f24, h24, e24⟩, ⟨k25, f25, h25, e25⟩, ⟨k26, f26, h26, e26⟩, ⟨k27, f27, h27, e27⟩⟩, ⟨k28, h28⟩, ⟨k29, f29, h29, e29⟩, ⟨k30, f30, h30, e30⟩⟩ := id hw
  refine CR_of (cc := cX3_countPlaced) (maxL := 3) (by decide) rfl (Nat.le_of_ble_eq_true rfl) ?_
  intro p e s m below meth c Q ls hx hb hml hown hts hK hNW hl hP hret
  have hl : lv_has ls 3 [(0, .ref (q 28))] := hl
  have n := Wf_n hg
  refine lv_iconst (v := iI (0)) hx hb dX3_countPlaced_0 rfl ?_
  refine lv_istore_n (lv' := [(1, .int (iI (0))), (0, .ref (q 28))]) hx hb dX3_countPlaced_1 rfl hl (by decide) rfl (fun ls hl => ?_)
  refine lv_iconst (v := iI (0)) hx hb dX3_countPlaced_2 rfl ?_
  refine lv_istore_n (lv' := [(2, .int (iI (0))), (1, .int (iI (0))), (0, .ref (q 28))]) hx hb dX3_countPlaced_3 rfl hl (by decide) rfl (fun ls hl => ?_)
  have L4 : ∀ (n : Nat) (i : Int) (r : Int) (ls : Array Slot), (0 ≤ i ∧ i ≤ g 3) → (r = smI (fun k => bI (¬ g (192 + 5 * k) - 1 = -1)) i) → ((g 3 - i).toNat < n) → (lv_has ls 3 [(2, .int (iI (i))), (1, .int (iI (r))), (0, .ref (q 28))]) → W p l e (rmN 0 0) s m ([.ref (q 28)] : List Value).toArray below meth c s.heap [] 0 0 Q (F0 m 4 ls []) := by
    intro n
    induction n with
    | zero => intro i r ls h1 h2 hn; exact absurd hn (Nat.not_lt_zero _)
    | succ n ih4 =>
      intro i r ls h1 h2 hn hl
      have hn4 := hn
      refine lv_iload_n hx hb dX3_countPlaced_4 rfl (lv_at hl 0 rfl) ?_
      refine lv_aload_n hx hb dX3_countPlaced_5 rfl (lv_at hl 2 rfl) ?_
      refine va_get (D := D) (ci := 3) (v := .ref (q 16)) (C := RX3) (T := TX3) (N := 4) hx hb hts (by decide +kernel) hown hK hP k28 h28 rfl 0 (by decide) (hts (.fieldLink RX3 9 "BreakSetter$Roster" "plan" "LBreakSetter$Plan;") (by decide +kernel)) (fun _ h9 => h9) rfl dX3_countPlaced_6 ?_
      refine va_get (D := D) (ci := 1) (v := .int (iI (g 3))) (C := RX1) (T := TX1) (N := 17) hx hb hts (by decide +kernel) hown hK hP k16 h16 rfl 5 (by decide) (hts (.fieldLink RX3 50 "BreakSetter$Plan" "pauses" "I") (by decide +kernel)) (fun _ h9 => h9) rfl dX3_countPlaced_9 ?_
      refine j_icmp_ge (tgt := 34) hx hb dX3_countPlaced_12 rfl ⟨by omega, by omega⟩ ⟨by omega, by omega⟩ (fun c12 => ?_) (fun c12 => ?_)
      · skip
        refine lv_iload_n hx hb dX3_countPlaced_34 rfl (lv_at hl 1 rfl) ?_
        exact hret ls 35 _ dX3_countPlaced_35 (by rw [h2, show i = g 3 by omega]; rfl)
      · skip
        have b3 := Wf_p hg (k := i) (by omega) (by omega)
        refine lv_aload_n hx hb dX3_countPlaced_15 rfl (lv_at hl 2 rfl) ?_
        refine va_get (D := D) (ci := 3) (v := .ref (q 29)) (C := RX3) (T := TX3) (N := 4) hx hb hts (by decide +kernel) hown hK hP k28 h28 rfl 1 (by decide) (hts (.fieldLink RX3 15 "BreakSetter$Roster" "places" "[I") (by decide +kernel)) (fun _ h9 => h9) rfl dX3_countPlaced_16 ?_
        refine lv_iload_n hx hb dX3_countPlaced_19 rfl (lv_at hl 0 rfl) ?_
        refine j_iald hx hb hK hP k29 1 h29 rfl ⟨by omega, by omega⟩ (Nat.le_of_ble_eq_true rfl) dX3_countPlaced_20 ?_
        refine W_wen (y := iI (g (192 + 5 * i) - 1)) (congrArg iI (e29 i (by omega) (by omega))) ?_
        refine lv_iconst (v := iI (-1)) hx hb dX3_countPlaced_21 rfl ?_
        refine j_icmp_eq (tgt := 28) hx hb dX3_countPlaced_22 rfl ⟨by omega, by omega⟩ ⟨by decide, by decide⟩ (fun c22 => ?_) (fun c22 => ?_)
        · skip
          refine j_iinc (k := 0) (lv' := [(2, .int (iI (i + 1))), (1, .int (iI (r))), (0, .ref (q 28))]) hx hb dX3_countPlaced_28 hl rfl (by decide) rfl (fun ls hl => ?_)
          refine lv_goto (tgt := 4) hx hb dX3_countPlaced_31 rfl ?_
          exact ih4 (i + 1) r ls (by omega) (by rw [smI_s _ (by omega), ← h2]; first | (rw [bI_t c22]; done) | (rw [bI_f (fun h => h c22)]; omega; done)) (by omega) (lv_sub hl [0, 1, 2] rfl)
        · skip
          refine j_iinc (k := 1) (lv' := [(1, .int (iI (r + 1))), (2, .int (iI (i))), (0, .ref (q 28))]) hx hb dX3_countPlaced_25 hl rfl (by decide) rfl (fun ls hl => ?_)
          refine j_iinc (k := 1) (lv' := [(2, .int (iI (i + 1))), (1, .int (iI (r + 1))), (0, .ref (q 28))]) hx hb dX3_countPlaced_28 hl rfl (by decide) rfl (fun ls hl => ?_)
          refine lv_goto (tgt := 4) hx hb dX3_countPlaced_31 rfl ?_
          exact ih4 (i + 1) (r + 1) ls (by omega) (by rw [smI_s _ (by omega), ← h2]; first | (rw [bI_t c22]; done) | (rw [bI_f (fun h => h c22)]; omega; done)) (by omega) (lv_sub hl [0, 1, 2] rfl)
  exact L4 _ 0 0 ls (by omega) rfl (Nat.lt_succ_self _) (lv_sub hl [0, 1, 2] rfl)

set_option maxHeartbeats 4000000 in
set_option maxRecDepth 100000 in
theorem c_X3_touches {l : Launch} {D : va_G} {C : Nat → ClassId} {q : Nat → Nat} {w : va_W} {g : Int → Int} (hw : RoW q C w g) (hg : Wf g) {kk aa bb : Int} (hk : 0 ≤ kk ∧ kk < g 3) (ha : 0 ≤ aa ∧ aa < 48) (hb0 : 0 ≤ bb ∧ bb < 60) : CR l yX3_touches wsX3_touches 0 0 D C [.ref (q 28), .int (iI (kk)), .int (iI (aa)), .int (iI (bb))] (w) (.int (iI (bI (¬ g (192 + 5 * kk) - 1 = -1 ∧ aa ≤ g (192 + 5 * kk) - 1 + g (189 + 5 * kk) ∧ g (192 + 5 * kk) - 1 ≤ bb)))) := by
  obtain ⟨⟨⟨k16, ln, nd, h16⟩, ⟨k17, f17, h17, e17⟩, ⟨k18, f18, h18, e18⟩, ⟨k19, f19, h19, e19⟩, ⟨k20, f20, h20, e20⟩, ⟨k21, f21, h21, e21⟩, ⟨k22, f22, h22, e22⟩, ⟨k23, f23, h23, e23⟩, ⟨k24, f24, h24, e24⟩, ⟨k25, f25, h25, e25⟩, ⟨k26, f26, h26, e26⟩, ⟨k27, f27, h27, e27⟩⟩, ⟨k28, h28⟩, ⟨k29, f29, h29, e29⟩, ⟨k30, f30, h30, e30⟩⟩ := id hw
  refine CRZ_of (cc := cX3_touches) (maxL := 5) (by decide) rfl (Nat.le_of_ble_eq_true rfl) (bI_01 _) ?_
  intro p e s m below meth c Q ls hx hb hml hown hts hK hNW hl hP hret
  have hl : lv_has ls 5 [(0, .ref (q 28)), (1, .int (iI (kk))), (2, .int (iI (aa))), (3, .int (iI (bb)))] := hl
  have n := Wf_n hg
  have b := Wf_p hg hk.1 hk.2
  refine lv_aload_n hx hb dX3_touches_0 rfl (lv_at hl 0 rfl) ?_
  refine va_get (D := D) (ci := 3) (v := .ref (q 29)) (C := RX3) (T := TX3) (N := 4) hx hb hts (by decide +kernel) hown hK hP k28 h28 rfl 1 (by decide) (hts (.fieldLink RX3 15 "BreakSetter$Roster" "places" "[I") (by decide +kernel)) (fun _ h9 => h9) rfl dX3_touches_1 ?_
  refine lv_iload_n hx hb dX3_touches_4 rfl (lv_at hl 1 rfl) ?_
  refine j_iald hx hb hK hP k29 1 h29 rfl ⟨by omega, by omega⟩ (Nat.le_of_ble_eq_true rfl) dX3_touches_5 ?_
  refine W_wen (y := iI (g (192 + 5 * kk) - 1)) (congrArg iI (e29 kk (by omega) (by omega))) ?_
  refine lv_istore (lv' := [(4, .int (iI (g (192 + 5 * kk) - 1))), (0, .ref (q 28)), (1, .int (iI (kk))), (2, .int (iI (aa))), (3, .int (iI (bb)))]) hx hb dX3_touches_6 hl (by decide) rfl (fun ls hl => ?_)
  refine lv_iload hx hb dX3_touches_8 (lv_at hl 0 rfl) ?_
  refine lv_iconst (v := iI (-1)) hx hb dX3_touches_10 rfl ?_
  refine j_icmp_eq (tgt := 40) hx hb dX3_touches_11 rfl ⟨by omega, by omega⟩ ⟨by decide, by decide⟩ (fun c11 => ?_) (fun c11 => ?_)
  · skip
    refine lv_iconst (v := iI (0)) hx hb dX3_touches_40 rfl ?_
    exact hret ls 41 _ dX3_touches_41 (by rw [bI_f (by omega)])
  · skip
    refine lv_iload_n hx hb dX3_touches_14 rfl (lv_at hl 3 rfl) ?_
    refine lv_iload hx hb dX3_touches_15 (lv_at hl 0 rfl) ?_
    refine lv_aload_n hx hb dX3_touches_17 rfl (lv_at hl 1 rfl) ?_
    refine va_get (D := D) (ci := 3) (v := .ref (q 16)) (C := RX3) (T := TX3) (N := 4) hx hb hts (by decide +kernel) hown hK hP k28 h28 rfl 0 (by decide) (hts (.fieldLink RX3 9 "BreakSetter$Roster" "plan" "LBreakSetter$Plan;") (by decide +kernel)) (fun _ h9 => h9) rfl dX3_touches_18 ?_
    refine va_get (D := D) (ci := 1) (v := .ref (q 25)) (C := RX1) (T := TX1) (N := 17) hx hb hts (by decide +kernel) hown hK hP k16 h16 rfl 14 (by decide) (hts (.fieldLink RX3 76 "BreakSetter$Plan" "pauseLong" "[I") (by decide +kernel)) (fun _ h9 => h9) rfl dX3_touches_21 ?_
    refine lv_iload_n hx hb dX3_touches_24 rfl (lv_at hl 2 rfl) ?_
    refine j_iald hx hb hK hP k25 1 h25 rfl ⟨by omega, by omega⟩ (Nat.le_of_ble_eq_true rfl) dX3_touches_25 ?_
    refine W_wen (y := iI (g (189 + 5 * kk))) (congrArg iI (e25 kk (by omega) (by omega))) ?_
    refine j_iadd hx hb dX3_touches_26 ?_
    refine j_icmp_gt (tgt := 40) hx hb dX3_touches_27 rfl ⟨by omega, by omega⟩ ⟨by omega, by omega⟩ (fun c27 => ?_) (fun c27 => ?_)
    · skip
      refine lv_iconst (v := iI (0)) hx hb dX3_touches_40 rfl ?_
      exact hret ls 41 _ dX3_touches_41 (by rw [bI_f (by omega)])
    · skip
      refine lv_iload hx hb dX3_touches_30 (lv_at hl 0 rfl) ?_
      refine lv_iload_n hx hb dX3_touches_32 rfl (lv_at hl 4 rfl) ?_
      refine j_icmp_gt (tgt := 40) hx hb dX3_touches_33 rfl ⟨by omega, by omega⟩ ⟨by omega, by omega⟩ (fun c33 => ?_) (fun c33 => ?_)
      · skip
        refine lv_iconst (v := iI (0)) hx hb dX3_touches_40 rfl ?_
        exact hret ls 41 _ dX3_touches_41 (by rw [bI_f (by omega)])
      · skip
        refine lv_iconst (v := iI (1)) hx hb dX3_touches_36 rfl ?_
        refine lv_goto (tgt := 41) hx hb dX3_touches_37 rfl ?_
        exact hret ls 41 _ dX3_touches_41 (by rw [bI_t ⟨c11, by omega, by omega⟩])

set_option maxHeartbeats 4000000 in
set_option maxRecDepth 100000 in
theorem c_X3_reasonAgainst {l : Launch} {D : va_G} {C : Nat → ClassId} {q : Nat → Nat} {w : va_W} {g : Int → Int} (hw : RoW q C w g) (hg : Wf g) {kk tt : Int} (hk : 0 ≤ kk ∧ kk < g 3) (ht : 0 ≤ tt ∧ tt < 48) : CR l yX3_reasonAgainst wsX3_reasonAgainst 1 24 D C [.ref (q 28), .int (iI (kk)), .int (iI (tt))] (w) (.int (iI (wy g kk tt))) := by
  obtain ⟨⟨⟨k16, ln, nd, h16⟩, ⟨k17, f17, h17, e17⟩, ⟨k18, f18, h18, e18⟩, ⟨k19, f19, h19, e19⟩, ⟨k20, f20, h20, e20⟩, ⟨k21, f21, h21, e21⟩, ⟨k22, f22, h22, e22⟩, ⟨k23, f23, h23, e23⟩, ⟨k24, f24, h24, e24⟩, ⟨k25, f25, h25, e25⟩, ⟨k26, f26, h26, e26⟩, ⟨k27, f27, h27, e27⟩⟩, ⟨k28, h28⟩, ⟨k29, f29, h29, e29⟩, ⟨k30, f30, h30, e30⟩⟩ := id hw
  refine CR_of (cc := cX3_reasonAgainst) (maxL := 6) (by decide) rfl (Nat.le_of_ble_eq_true rfl) ?_
  intro p e s m below meth c Q ls hx hb hml hown hts hK hNW hl hP hret
  have hl : lv_has ls 6 [(0, .ref (q 28)), (1, .int (iI (kk))), (2, .int (iI (tt)))] := hl
  have n := Wf_n hg
  have b := Wf_p hg hk.1 hk.2
  have b1 := Wf_pa hg hk.1 hk.2
  have b2 := Wf_sh hg b1.1 b1.2.1
  refine lv_iload_n hx hb dX3_reasonAgainst_0 rfl (lv_at hl 2 rfl) ?_
  refine lv_aload_n hx hb dX3_reasonAgainst_1 rfl (lv_at hl 0 rfl) ?_
  refine va_get (D := D) (ci := 3) (v := .ref (q 16)) (C := RX3) (T := TX3) (N := 4) hx hb hts (by decide +kernel) hown hK hP k28 h28 rfl 0 (by decide) (hts (.fieldLink RX3 9 "BreakSetter$Roster" "plan" "LBreakSetter$Plan;") (by decide +kernel)) (fun _ h9 => h9) rfl dX3_reasonAgainst_2 ?_
  refine va_get (D := D) (ci := 1) (v := .ref (q 26)) (C := RX1) (T := TX1) (N := 17) hx hb hts (by decide +kernel) hown hK hP k16 h16 rfl 15 (by decide) (hts (.fieldLink RX3 79 "BreakSetter$Plan" "pauseEarly" "[I") (by decide +kernel)) (fun _ h9 => h9) rfl dX3_reasonAgainst_5 ?_
  refine lv_iload_n hx hb dX3_reasonAgainst_8 rfl (lv_at hl 1 rfl) ?_
  refine j_iald hx hb hK hP k26 1 h26 rfl ⟨by omega, by omega⟩ (Nat.le_of_ble_eq_true rfl) dX3_reasonAgainst_9 ?_
  refine W_wen (y := iI (g (190 + 5 * kk))) (congrArg iI (e26 kk (by omega) (by omega))) ?_
  refine j_icmp_lt (tgt := 26) hx hb dX3_reasonAgainst_10 rfl ⟨by omega, by omega⟩ ⟨by omega, by omega⟩ (fun c10 => ?_) (fun c10 => ?_)
  · skip
    refine lv_iconst (v := iI (1)) hx hb dX3_reasonAgainst_26 rfl ?_
    exact hret ls 27 _ dX3_reasonAgainst_27 (by rw [wy_1 (by omega)])
  · skip
    refine lv_iload_n hx hb dX3_reasonAgainst_13 rfl (lv_at hl 2 rfl) ?_
    refine lv_aload_n hx hb dX3_reasonAgainst_14 rfl (lv_at hl 0 rfl) ?_
    refine va_get (D := D) (ci := 3) (v := .ref (q 16)) (C := RX3) (T := TX3) (N := 4) hx hb hts (by decide +kernel) hown hK hP k28 h28 rfl 0 (by decide) (hts (.fieldLink RX3 9 "BreakSetter$Roster" "plan" "LBreakSetter$Plan;") (by decide +kernel)) (fun _ h9 => h9) rfl dX3_reasonAgainst_15 ?_
    refine va_get (D := D) (ci := 1) (v := .ref (q 27)) (C := RX1) (T := TX1) (N := 17) hx hb hts (by decide +kernel) hown hK hP k16 h16 rfl 16 (by decide) (hts (.fieldLink RX3 82 "BreakSetter$Plan" "pauseLate" "[I") (by decide +kernel)) (fun _ h9 => h9) rfl dX3_reasonAgainst_18 ?_
    refine lv_iload_n hx hb dX3_reasonAgainst_21 rfl (lv_at hl 1 rfl) ?_
    refine j_iald hx hb hK hP k27 1 h27 rfl ⟨by omega, by omega⟩ (Nat.le_of_ble_eq_true rfl) dX3_reasonAgainst_22 ?_
    refine W_wen (y := iI (g (191 + 5 * kk))) (congrArg iI (e27 kk (by omega) (by omega))) ?_
    refine j_icmp_le (tgt := 28) hx hb dX3_reasonAgainst_23 rfl ⟨by omega, by omega⟩ ⟨by omega, by omega⟩ (fun c23 => ?_) (fun c23 => ?_)
    · skip
      refine lv_aload_n hx hb dX3_reasonAgainst_28 rfl (lv_at hl 0 rfl) ?_
      refine va_get (D := D) (ci := 3) (v := .ref (q 16)) (C := RX3) (T := TX3) (N := 4) hx hb hts (by decide +kernel) hown hK hP k28 h28 rfl 0 (by decide) (hts (.fieldLink RX3 9 "BreakSetter$Roster" "plan" "LBreakSetter$Plan;") (by decide +kernel)) (fun _ h9 => h9) rfl dX3_reasonAgainst_29 ?_
      refine va_get (D := D) (ci := 1) (v := .ref (q 24)) (C := RX1) (T := TX1) (N := 17) hx hb hts (by decide +kernel) hown hK hP k16 h16 rfl 13 (by decide) (hts (.fieldLink RX3 85 "BreakSetter$Plan" "pauseShift" "[I") (by decide +kernel)) (fun _ h9 => h9) rfl dX3_reasonAgainst_32 ?_
      refine lv_iload_n hx hb dX3_reasonAgainst_35 rfl (lv_at hl 1 rfl) ?_
      refine j_iald hx hb hK hP k24 1 h24 rfl ⟨by omega, by omega⟩ (Nat.le_of_ble_eq_true rfl) dX3_reasonAgainst_36 ?_
      refine W_wen (y := iI (g (188 + 5 * kk))) (congrArg iI (e24 kk (by omega) (by omega))) ?_
      refine lv_istore_n (lv' := [(3, .int (iI (g (188 + 5 * kk)))), (0, .ref (q 28)), (1, .int (iI (kk))), (2, .int (iI (tt)))]) hx hb dX3_reasonAgainst_37 rfl hl (by decide) rfl (fun ls hl => ?_)
      refine lv_aload_n hx hb dX3_reasonAgainst_38 rfl (lv_at hl 1 rfl) ?_
      refine va_get (D := D) (ci := 3) (v := .ref (q 16)) (C := RX3) (T := TX3) (N := 4) hx hb hts (by decide +kernel) hown hK hP k28 h28 rfl 0 (by decide) (hts (.fieldLink RX3 9 "BreakSetter$Roster" "plan" "LBreakSetter$Plan;") (by decide +kernel)) (fun _ h9 => h9) rfl dX3_reasonAgainst_39 ?_
      refine va_get (D := D) (ci := 1) (v := .ref (q 23)) (C := RX1) (T := TX1) (N := 17) hx hb hts (by decide +kernel) hown hK hP k16 h16 rfl 12 (by decide) (hts (.fieldLink RX3 88 "BreakSetter$Plan" "shiftFirst" "[I") (by decide +kernel)) (fun _ h9 => h9) rfl dX3_reasonAgainst_42 ?_
      refine lv_iload_n hx hb dX3_reasonAgainst_45 rfl (lv_at hl 0 rfl) ?_
      refine j_iald hx hb hK hP k23 1 h23 rfl ⟨by omega, by omega⟩ (Nat.le_of_ble_eq_true rfl) dX3_reasonAgainst_46 ?_
      refine W_wen (y := iI (g (152 + 5 * (g (188 + 5 * kk))))) (congrArg iI (e23 (g (188 + 5 * kk)) (by omega) (by omega))) ?_
      refine lv_istore (lv' := [(4, .int (iI (g (152 + 5 * (g (188 + 5 * kk)))))), (3, .int (iI (g (188 + 5 * kk)))), (0, .ref (q 28)), (1, .int (iI (kk))), (2, .int (iI (tt)))]) hx hb dX3_reasonAgainst_47 hl (by decide) rfl (fun ls hl => ?_)
      refine lv_iload hx hb dX3_reasonAgainst_49 (lv_at hl 0 rfl) ?_
      refine lv_istore (lv' := [(5, .int (iI (g (152 + 5 * (g (188 + 5 * kk)))))), (4, .int (iI (g (152 + 5 * (g (188 + 5 * kk)))))), (3, .int (iI (g (188 + 5 * kk)))), (0, .ref (q 28)), (1, .int (iI (kk))), (2, .int (iI (tt)))]) hx hb dX3_reasonAgainst_51 hl (by decide) rfl (fun ls hl => ?_)
      have L53 : ∀ (n : Nat) (i : Int) (ls : Array Slot), (g (152 + 5 * g (188 + 5 * kk)) ≤ i ∧ i ≤ g (152 + 5 * g (188 + 5 * kk)) + g (151 + 5 * g (188 + 5 * kk))) → (∀ x : Int, g (152 + 5 * g (188 + 5 * kk)) ≤ x → x < i → ¬ tch g kk tt x) → ((g (152 + 5 * g (188 + 5 * kk)) + g (151 + 5 * g (188 + 5 * kk)) - i).toNat < n) → (lv_has ls 6 [(5, .int (iI (i))), (4, .int (iI (g (152 + 5 * (g (188 + 5 * kk)))))), (3, .int (iI (g (188 + 5 * kk)))), (0, .ref (q 28)), (1, .int (iI (kk))), (2, .int (iI (tt)))]) → W p l e (rmN 1 24) s m ([.ref (q 28), .int (iI (kk)), .int (iI (tt))] : List Value).toArray below meth c s.heap [] 0 0 Q (F0 m 53 ls []) := by
        intro n
        induction n with
        | zero => intro i ls h1 h2 hn; exact absurd hn (Nat.not_lt_zero _)
        | succ n ih53 =>
          intro i ls h1 h2 hn hl
          have hn53 := hn
          refine lv_iload hx hb dX3_reasonAgainst_53 (lv_at hl 0 rfl) ?_
          refine lv_iload hx hb dX3_reasonAgainst_55 (lv_at hl 1 rfl) ?_
          refine lv_aload_n hx hb dX3_reasonAgainst_57 rfl (lv_at hl 3 rfl) ?_
          refine va_get (D := D) (ci := 3) (v := .ref (q 16)) (C := RX3) (T := TX3) (N := 4) hx hb hts (by decide +kernel) hown hK hP k28 h28 rfl 0 (by decide) (hts (.fieldLink RX3 9 "BreakSetter$Roster" "plan" "LBreakSetter$Plan;") (by decide +kernel)) (fun _ h9 => h9) rfl dX3_reasonAgainst_58 ?_
          refine va_get (D := D) (ci := 1) (v := .ref (q 22)) (C := RX1) (T := TX1) (N := 17) hx hb hts (by decide +kernel) hown hK hP k16 h16 rfl 11 (by decide) (hts (.fieldLink RX3 91 "BreakSetter$Plan" "shiftPauses" "[I") (by decide +kernel)) (fun _ h9 => h9) rfl dX3_reasonAgainst_61 ?_
          refine lv_iload_n hx hb dX3_reasonAgainst_64 rfl (lv_at hl 2 rfl) ?_
          refine j_iald hx hb hK hP k22 1 h22 rfl ⟨by omega, by omega⟩ (Nat.le_of_ble_eq_true rfl) dX3_reasonAgainst_65 ?_
          refine W_wen (y := iI (g (151 + 5 * (g (188 + 5 * kk))))) (congrArg iI (e22 (g (188 + 5 * kk)) (by omega) (by omega))) ?_
          refine j_iadd hx hb dX3_reasonAgainst_66 ?_
          refine j_icmp_ge (tgt := 105) hx hb dX3_reasonAgainst_67 rfl ⟨by omega, by omega⟩ ⟨by omega, by omega⟩ (fun c67 => ?_) (fun c67 => ?_)
          · skip
            refine lv_iconst (v := iI (0)) hx hb dX3_reasonAgainst_105 rfl ?_
            exact hret ls 106 _ dX3_reasonAgainst_106 (by rw [wy_0 ⟨by omega, by omega⟩ (fun ⟨x, a, b, h⟩ => by have r := Wf_pa hg a b; rw [h.2.1] at r; exact h2 x (by omega) (by omega) h)])
          · skip
            have b3 := Wf_p hg (k := i) (by omega) (by omega)
            refine lv_iload hx hb dX3_reasonAgainst_70 (lv_at hl 0 rfl) ?_
            refine lv_iload_n hx hb dX3_reasonAgainst_72 rfl (lv_at hl 4 rfl) ?_
            refine j_icmp_eq (tgt := 99) hx hb dX3_reasonAgainst_73 rfl ⟨by omega, by omega⟩ ⟨by omega, by omega⟩ (fun c73 => ?_) (fun c73 => ?_)
            · skip
              refine j_iinc (k := 0) (lv' := [(5, .int (iI (i + 1))), (4, .int (iI (g (152 + 5 * (g (188 + 5 * kk)))))), (3, .int (iI (g (188 + 5 * kk)))), (0, .ref (q 28)), (1, .int (iI (kk))), (2, .int (iI (tt)))]) hx hb dX3_reasonAgainst_99 hl rfl (by decide) rfl (fun ls hl => ?_)
              refine lv_goto (tgt := 53) hx hb dX3_reasonAgainst_102 rfl ?_
              exact ih53 (i + 1) ls (by omega) (fa_step h2 (fun hh => by exact hh.1 c73)) (by omega) (lv_sub hl [0, 1, 2, 3, 4, 5] rfl)
            · skip
              refine lv_aload_n hx hb dX3_reasonAgainst_76 rfl (lv_at hl 3 rfl) ?_
              refine lv_iload hx hb dX3_reasonAgainst_77 (lv_at hl 0 rfl) ?_
              refine lv_iload_n hx hb dX3_reasonAgainst_79 rfl (lv_at hl 5 rfl) ?_
              refine lv_iload_n hx hb dX3_reasonAgainst_80 rfl (lv_at hl 5 rfl) ?_
              refine lv_aload_n hx hb dX3_reasonAgainst_81 rfl (lv_at hl 3 rfl) ?_
              refine va_get (D := D) (ci := 3) (v := .ref (q 16)) (C := RX3) (T := TX3) (N := 4) hx hb hts (by decide +kernel) hown hK hP k28 h28 rfl 0 (by decide) (hts (.fieldLink RX3 9 "BreakSetter$Roster" "plan" "LBreakSetter$Plan;") (by decide +kernel)) (fun _ h9 => h9) rfl dX3_reasonAgainst_82 ?_
              refine va_get (D := D) (ci := 1) (v := .ref (q 25)) (C := RX1) (T := TX1) (N := 17) hx hb hts (by decide +kernel) hown hK hP k16 h16 rfl 14 (by decide) (hts (.fieldLink RX3 76 "BreakSetter$Plan" "pauseLong" "[I") (by decide +kernel)) (fun _ h9 => h9) rfl dX3_reasonAgainst_85 ?_
              refine lv_iload_n hx hb dX3_reasonAgainst_88 rfl (lv_at hl 4 rfl) ?_
              refine j_iald hx hb hK hP k25 1 h25 rfl ⟨by omega, by omega⟩ (Nat.le_of_ble_eq_true rfl) dX3_reasonAgainst_89 ?_
              refine W_wen (y := iI (g (189 + 5 * kk))) (congrArg iI (e25 kk (by omega) (by omega))) ?_
              refine j_iadd hx hb dX3_reasonAgainst_90 ?_
              refine CR_callV (As := [.int (iI (i)), .int (iI (tt)), .int (iI (tt + (g (189 + 5 * kk))))]) (rest := []) ⟨hx, hb, hml, hown, hts⟩ (c_X3_touches hw hg (by omega) (by omega) (by omega)) (cwV 3 hts gX3_reasonAgainst_X3_touches rfl rfl rfl (by decide +kernel) ⟨Nat.le_of_ble_eq_true rfl, Nat.le_of_ble_eq_true rfl⟩) (q0 := k28) h28 rfl rfl hK hNW hP rfl hl.1 rfl (Nat.le_of_ble_eq_true rfl) dX3_reasonAgainst_91 ⟨Nat.zero_le _, Nat.zero_le _⟩ ?_
              refine j_ifeqB (tgt := 99) hx hb dX3_reasonAgainst_94 rfl (fun c94 => ?_) (fun c94 => ?_)
              · skip
                refine j_iinc (k := 0) (lv' := [(5, .int (iI (i + 1))), (4, .int (iI (g (152 + 5 * (g (188 + 5 * kk)))))), (3, .int (iI (g (188 + 5 * kk)))), (0, .ref (q 28)), (1, .int (iI (kk))), (2, .int (iI (tt)))]) hx hb dX3_reasonAgainst_99 hl rfl (by decide) rfl (fun ls hl => ?_)
                refine lv_goto (tgt := 53) hx hb dX3_reasonAgainst_102 rfl ?_
                exact ih53 (i + 1) ls (by omega) (fa_step h2 (fun hh => by first | exact hh.1 c73 | exact c94 ⟨hh.2.2.1, hh.2.2.2.1, hh.2.2.2.2⟩)) (by omega) (lv_sub hl [0, 1, 2, 3, 4, 5] rfl)
              · skip
                refine lv_iconst (v := iI (2)) hx hb dX3_reasonAgainst_97 rfl ?_
                exact hret ls 98 _ dX3_reasonAgainst_98 (by rw [wy_2 ⟨by omega, by omega⟩ ⟨i, by omega, by omega, c73, hg.2.2.2.2.2.2.2.2.1 (g (188 + 5 * kk)) i b1.1 b1.2.1 (by omega) (by omega), c94.1, c94.2.1, c94.2.2⟩])
      exact L53 _ (g (152 + 5 * (g (188 + 5 * kk)))) ls (by omega) (fun x a b => absurd b (by omega)) (Nat.lt_succ_self _) (lv_sub hl [0, 1, 2, 3, 4, 5] rfl)
    · skip
      refine lv_iconst (v := iI (1)) hx hb dX3_reasonAgainst_26 rfl ?_
      exact hret ls 27 _ dX3_reasonAgainst_27 (by rw [wy_1 (by omega)])

set_option maxHeartbeats 4000000 in
set_option maxRecDepth 100000 in
theorem c_X3_shortfallWithout {l : Launch} {D : va_G} {C : Nat → ClassId} {q : Nat → Nat} {w : va_W} {g : Int → Int} (hw : RoW q C w g) (hg : Wf g) {kk : Int} (hk : 0 ≤ kk ∧ kk < g 3) : CR l yX3_shortfallWithout wsX3_shortfallWithout 2 43 D C [.ref (q 28), .int (iI (kk))] (w) (.int (iI (SF (lie g kk (-1))))) := by
  obtain ⟨⟨⟨k16, ln, nd, h16⟩, ⟨k17, f17, h17, e17⟩, ⟨k18, f18, h18, e18⟩, ⟨k19, f19, h19, e19⟩, ⟨k20, f20, h20, e20⟩, ⟨k21, f21, h21, e21⟩, ⟨k22, f22, h22, e22⟩, ⟨k23, f23, h23, e23⟩, ⟨k24, f24, h24, e24⟩, ⟨k25, f25, h25, e25⟩, ⟨k26, f26, h26, e26⟩, ⟨k27, f27, h27, e27⟩⟩, ⟨k28, h28⟩, ⟨k29, f29, h29, e29⟩, ⟨k30, f30, h30, e30⟩⟩ := id hw
  refine CR_of (cc := cX3_shortfallWithout) (maxL := 6) (by decide) rfl (Nat.le_of_ble_eq_true rfl) ?_
  intro p e s m below meth c Q ls hx hb hml hown hts hK hNW hl hP hret
  have hl : lv_has ls 6 [(0, .ref (q 28)), (1, .int (iI (kk)))] := hl
  have n := Wf_n hg
  have b := Wf_p hg hk.1 hk.2
  have pr := pk_rng hg hk.1 hk.2
  have at_ := Wf_at hg hk.1 (by omega)
  have sf := SF_rng hg
  refine lv_aload_n hx hb dX3_shortfallWithout_0 rfl (lv_at hl 0 rfl) ?_
  refine va_get (D := D) (ci := 3) (v := .ref (q 29)) (C := RX3) (T := TX3) (N := 4) hx hb hts (by decide +kernel) hown hK hP k28 h28 rfl 1 (by decide) (hts (.fieldLink RX3 15 "BreakSetter$Roster" "places" "[I") (by decide +kernel)) (fun _ h9 => h9) rfl dX3_shortfallWithout_1 ?_
  refine lv_iload_n hx hb dX3_shortfallWithout_4 rfl (lv_at hl 1 rfl) ?_
  refine j_iald hx hb hK hP k29 1 h29 rfl ⟨by omega, by omega⟩ (Nat.le_of_ble_eq_true rfl) dX3_shortfallWithout_5 ?_
  refine W_wen (y := iI (g (192 + 5 * kk) - 1)) (congrArg iI (e29 kk (by omega) (by omega))) ?_
  refine lv_istore_n (lv' := [(2, .int (iI (g (192 + 5 * kk) - 1))), (0, .ref (q 28)), (1, .int (iI (kk)))]) hx hb dX3_shortfallWithout_6 rfl hl (by decide) rfl (fun ls hl => ?_)
  refine lv_iload_n hx hb dX3_shortfallWithout_7 rfl (lv_at hl 0 rfl) ?_
  refine lv_iconst (v := iI (-1)) hx hb dX3_shortfallWithout_8 rfl ?_
  refine j_icmp_ne (tgt := 17) hx hb dX3_shortfallWithout_9 rfl ⟨by omega, by omega⟩ ⟨by decide, by decide⟩ (fun c9 => ?_) (fun c9 => ?_)
  · skip
    refine lv_aload_n hx hb dX3_shortfallWithout_17 rfl (lv_at hl 1 rfl) ?_
    refine va_get (D := D) (ci := 3) (v := .ref (q 16)) (C := RX3) (T := TX3) (N := 4) hx hb hts (by decide +kernel) hown hK hP k28 h28 rfl 0 (by decide) (hts (.fieldLink RX3 9 "BreakSetter$Roster" "plan" "LBreakSetter$Plan;") (by decide +kernel)) (fun _ h9 => h9) rfl dX3_shortfallWithout_18 ?_
    refine lv_iload_n hx hb dX3_shortfallWithout_21 rfl (lv_at hl 2 rfl) ?_
    refine lv_iload_n hx hb dX3_shortfallWithout_22 rfl (lv_at hl 0 rfl) ?_
    refine CR_callV (As := [.int (iI (kk)), .int (iI (g (192 + 5 * kk) - 1))]) (rest := []) ⟨hx, hb, hml, hown, hts⟩ (c_X1_cellOfPause hw.1 hg (by omega)) (cwV 2 hts gX3_shortfallWithout_X1_cellOfPause rfl rfl rfl (by decide +kernel) ⟨Nat.le_of_ble_eq_true rfl, Nat.le_of_ble_eq_true rfl⟩) (q0 := k16) h16 rfl rfl hK hNW hP rfl hl.1 rfl (Nat.le_of_ble_eq_true rfl) dX3_shortfallWithout_23 ⟨Nat.zero_le _, Nat.zero_le _⟩ ?_
    refine lv_istore_n (lv' := [(3, .int (iI (pk g kk * 48 + (g (192 + 5 * kk) - 1)))), (2, .int (iI (g (192 + 5 * kk) - 1))), (0, .ref (q 28)), (1, .int (iI (kk)))]) hx hb dX3_shortfallWithout_26 rfl hl (by decide) rfl (fun ls hl => ?_)
    refine lv_aload_n hx hb dX3_shortfallWithout_27 rfl (lv_at hl 2 rfl) ?_
    refine va_get (D := D) (ci := 3) (v := .int (iI (SF g))) (C := RX3) (T := TX3) (N := 4) hx hb hts (by decide +kernel) hown hK hP k28 h28 rfl 3 (by decide) (hts (.fieldLink RX3 42 "BreakSetter$Roster" "shortfall" "I") (by decide +kernel)) (fun _ h9 => h9) rfl dX3_shortfallWithout_28 ?_
    refine lv_istore (lv' := [(4, .int (iI (SF g))), (3, .int (iI (pk g kk * 48 + (g (192 + 5 * kk) - 1)))), (2, .int (iI (g (192 + 5 * kk) - 1))), (0, .ref (q 28)), (1, .int (iI (kk)))]) hx hb dX3_shortfallWithout_31 hl (by decide) rfl (fun ls hl => ?_)
    refine lv_iload_n hx hb dX3_shortfallWithout_33 rfl (lv_at hl 1 rfl) ?_
    refine lv_istore (lv' := [(5, .int (iI (pk g kk * 48 + (g (192 + 5 * kk) - 1)))), (4, .int (iI (SF g))), (3, .int (iI (pk g kk * 48 + (g (192 + 5 * kk) - 1)))), (2, .int (iI (g (192 + 5 * kk) - 1))), (0, .ref (q 28)), (1, .int (iI (kk)))]) hx hb dX3_shortfallWithout_34 hl (by decide) rfl (fun ls hl => ?_)
    have L36 : ∀ (n : Nat) (i : Int) (r : Int) (ls : Array Slot), ((pk g kk * 48 + (g (192 + 5 * kk) - 1)) ≤ i ∧ i ≤ (pk g kk * 48 + (g (192 + 5 * kk) - 1)) + g (189 + 5 * kk)) → (r = SF g - sm (fun j => wlo g ((pk g kk * 48 + (g (192 + 5 * kk) - 1)) + j)) (i - (pk g kk * 48 + (g (192 + 5 * kk) - 1))).toNat) → (((pk g kk * 48 + (g (192 + 5 * kk) - 1)) + g (189 + 5 * kk) - i).toNat < n) → (lv_has ls 6 [(5, .int (iI (i))), (4, .int (iI (r))), (3, .int (iI (pk g kk * 48 + (g (192 + 5 * kk) - 1)))), (2, .int (iI (g (192 + 5 * kk) - 1))), (0, .ref (q 28)), (1, .int (iI (kk)))]) → W p l e (rmN 2 43) s m ([.ref (q 28), .int (iI (kk))] : List Value).toArray below meth c s.heap [] 0 0 Q (F0 m 36 ls []) := by
      intro n
      induction n with
      | zero => intro i r ls h1 h2 hn; exact absurd hn (Nat.not_lt_zero _)
      | succ n ih36 =>
        intro i r ls h1 h2 hn hl
        have hn36 := hn
        refine lv_iload hx hb dX3_shortfallWithout_36 (lv_at hl 0 rfl) ?_
        refine lv_iload_n hx hb dX3_shortfallWithout_38 rfl (lv_at hl 2 rfl) ?_
        refine lv_aload_n hx hb dX3_shortfallWithout_39 rfl (lv_at hl 4 rfl) ?_
        refine va_get (D := D) (ci := 3) (v := .ref (q 16)) (C := RX3) (T := TX3) (N := 4) hx hb hts (by decide +kernel) hown hK hP k28 h28 rfl 0 (by decide) (hts (.fieldLink RX3 9 "BreakSetter$Roster" "plan" "LBreakSetter$Plan;") (by decide +kernel)) (fun _ h9 => h9) rfl dX3_shortfallWithout_40 ?_
        refine va_get (D := D) (ci := 1) (v := .ref (q 25)) (C := RX1) (T := TX1) (N := 17) hx hb hts (by decide +kernel) hown hK hP k16 h16 rfl 14 (by decide) (hts (.fieldLink RX3 76 "BreakSetter$Plan" "pauseLong" "[I") (by decide +kernel)) (fun _ h9 => h9) rfl dX3_shortfallWithout_43 ?_
        refine lv_iload_n hx hb dX3_shortfallWithout_46 rfl (lv_at hl 5 rfl) ?_
        refine j_iald hx hb hK hP k25 1 h25 rfl ⟨by omega, by omega⟩ (Nat.le_of_ble_eq_true rfl) dX3_shortfallWithout_47 ?_
        refine W_wen (y := iI (g (189 + 5 * kk))) (congrArg iI (e25 kk (by omega) (by omega))) ?_
        refine j_iadd hx hb dX3_shortfallWithout_48 ?_
        refine j_icmp_ge (tgt := 81) hx hb dX3_shortfallWithout_49 rfl ⟨by omega, by omega⟩ ⟨by omega, by omega⟩ (fun c49 => ?_) (fun c49 => ?_)
        · skip
          refine lv_iload hx hb dX3_shortfallWithout_81 (lv_at hl 1 rfl) ?_
          exact hret ls 83 _ dX3_shortfallWithout_83 (congrArg iI (by rw [SF_wo hg hk.1 hk.2 c9, h2, show i - (pk g kk * 48 + (g (192 + 5 * kk) - 1)) = g (189 + 5 * kk) by omega]))
        · skip
          have b4 := Wf_need hg (c := i) (by omega) (by omega)
          have b5 := cvc_rng hg i
          refine lv_aload_n hx hb dX3_shortfallWithout_52 rfl (lv_at hl 4 rfl) ?_
          refine va_get (D := D) (ci := 3) (v := .ref (q 16)) (C := RX3) (T := TX3) (N := 4) hx hb hts (by decide +kernel) hown hK hP k28 h28 rfl 0 (by decide) (hts (.fieldLink RX3 9 "BreakSetter$Roster" "plan" "LBreakSetter$Plan;") (by decide +kernel)) (fun _ h9 => h9) rfl dX3_shortfallWithout_53 ?_
          refine va_get (D := D) (ci := 1) (v := .ref (q 17)) (C := RX1) (T := TX1) (N := 17) hx hb hts (by decide +kernel) hown hK hP k16 h16 rfl 6 (by decide) (hts (.fieldLink RX3 57 "BreakSetter$Plan" "need" "[I") (by decide +kernel)) (fun _ h9 => h9) rfl dX3_shortfallWithout_56 ?_
          refine lv_iload hx hb dX3_shortfallWithout_59 (lv_at hl 0 rfl) ?_
          refine j_iald hx hb hK hP k17 1 h17 rfl ⟨by omega, by omega⟩ (Nat.le_of_ble_eq_true rfl) dX3_shortfallWithout_61 ?_
          refine W_wen (y := iI (g (4 + i))) (congrArg iI (e17 i (by omega) (by omega))) ?_
          refine lv_aload_n hx hb dX3_shortfallWithout_62 rfl (lv_at hl 4 rfl) ?_
          refine va_get (D := D) (ci := 3) (v := .ref (q 30)) (C := RX3) (T := TX3) (N := 4) hx hb hts (by decide +kernel) hown hK hP k28 h28 rfl 2 (by decide) (hts (.fieldLink RX3 19 "BreakSetter$Roster" "cover" "[I") (by decide +kernel)) (fun _ h9 => h9) rfl dX3_shortfallWithout_63 ?_
          refine lv_iload hx hb dX3_shortfallWithout_66 (lv_at hl 0 rfl) ?_
          refine j_iald hx hb hK hP k30 1 h30 rfl ⟨by omega, by omega⟩ (Nat.le_of_ble_eq_true rfl) dX3_shortfallWithout_68 ?_
          refine W_wen (y := iI (cvc g i)) (congrArg iI (e30 i (by omega) (by omega))) ?_
          refine j_icmp_le (tgt := 75) hx hb dX3_shortfallWithout_69 rfl ⟨by omega, by omega⟩ ⟨by omega, by omega⟩ (fun c69 => ?_) (fun c69 => ?_)
          · skip
            refine j_iinc (k := 0) (lv' := [(5, .int (iI (i + 1))), (4, .int (iI (r))), (3, .int (iI (pk g kk * 48 + (g (192 + 5 * kk) - 1)))), (2, .int (iI (g (192 + 5 * kk) - 1))), (0, .ref (q 28)), (1, .int (iI (kk)))]) hx hb dX3_shortfallWithout_75 hl rfl (by decide) rfl (fun ls hl => ?_)
            refine lv_goto (tgt := 36) hx hb dX3_shortfallWithout_78 rfl ?_
            exact ih36 (i + 1) r ls (by omega) (by rw [sm_at (a := (pk g kk * 48 + (g (192 + 5 * kk) - 1))) h1.1, h2]; unfold wlo; first | (rw [bI_t (by omega)]; omega; done) | (rw [bI_f (by omega)]; omega; done)) (by omega) (lv_sub hl [0, 1, 2, 3, 4, 5] rfl)
          · skip
            refine j_iinc (k := 1) (lv' := [(4, .int (iI (r + (-1)))), (5, .int (iI (i))), (3, .int (iI (pk g kk * 48 + (g (192 + 5 * kk) - 1)))), (2, .int (iI (g (192 + 5 * kk) - 1))), (0, .ref (q 28)), (1, .int (iI (kk)))]) hx hb dX3_shortfallWithout_72 hl rfl (by decide) rfl (fun ls hl => ?_)
            refine j_iinc (k := 1) (lv' := [(5, .int (iI (i + 1))), (4, .int (iI (r + (-1)))), (3, .int (iI (pk g kk * 48 + (g (192 + 5 * kk) - 1)))), (2, .int (iI (g (192 + 5 * kk) - 1))), (0, .ref (q 28)), (1, .int (iI (kk)))]) hx hb dX3_shortfallWithout_75 hl rfl (by decide) rfl (fun ls hl => ?_)
            refine lv_goto (tgt := 36) hx hb dX3_shortfallWithout_78 rfl ?_
            exact ih36 (i + 1) (r + (-1)) ls (by omega) (by rw [sm_at (a := (pk g kk * 48 + (g (192 + 5 * kk) - 1))) h1.1, h2]; unfold wlo; first | (rw [bI_t (by omega)]; omega; done) | (rw [bI_f (by omega)]; omega; done)) (by omega) (lv_sub hl [0, 1, 2, 3, 4, 5] rfl)
    exact L36 _ (pk g kk * 48 + (g (192 + 5 * kk) - 1)) (SF g) ls (by omega) (by rw [Int.sub_self]; show _ = SF g - 0; omega) (Nat.lt_succ_self _) (lv_sub hl [0, 1, 2, 3, 4, 5] rfl)
  · skip
    refine lv_aload_n hx hb dX3_shortfallWithout_12 rfl (lv_at hl 1 rfl) ?_
    refine va_get (D := D) (ci := 3) (v := .int (iI (SF g))) (C := RX3) (T := TX3) (N := 4) hx hb hts (by decide +kernel) hown hK hP k28 h28 rfl 3 (by decide) (hts (.fieldLink RX3 42 "BreakSetter$Roster" "shortfall" "I") (by decide +kernel)) (fun _ h9 => h9) rfl dX3_shortfallWithout_13 ?_
    exact hret ls 16 _ dX3_shortfallWithout_16 (by rw [lie_idz (by omega)])

set_option maxHeartbeats 4000000 in
set_option maxRecDepth 100000 in
theorem c_X3_lossAt {l : Launch} {D : va_G} {C : Nat → ClassId} {q : Nat → Nat} {w : va_W} {g : Int → Int} (hw : RoW q C w g) (hg : Wf g) {kk tt : Int} (hk : 0 ≤ kk ∧ kk < g 3) (ht : g (190 + 5 * kk) ≤ tt ∧ tt ≤ g (191 + 5 * kk)) : CR l yX3_lossAt wsX3_lossAt 2 43 D C [.ref (q 28), .int (iI (kk)), .int (iI (tt))] (w) (.int (iI (SF (lie g kk tt) - SF (lie g kk (-1))))) := by
  obtain ⟨⟨⟨k16, ln, nd, h16⟩, ⟨k17, f17, h17, e17⟩, ⟨k18, f18, h18, e18⟩, ⟨k19, f19, h19, e19⟩, ⟨k20, f20, h20, e20⟩, ⟨k21, f21, h21, e21⟩, ⟨k22, f22, h22, e22⟩, ⟨k23, f23, h23, e23⟩, ⟨k24, f24, h24, e24⟩, ⟨k25, f25, h25, e25⟩, ⟨k26, f26, h26, e26⟩, ⟨k27, f27, h27, e27⟩⟩, ⟨k28, h28⟩, ⟨k29, f29, h29, e29⟩, ⟨k30, f30, h30, e30⟩⟩ := id hw
  refine CR_of (cc := cX3_lossAt) (maxL := 10) (by decide) rfl (Nat.le_of_ble_eq_true rfl) ?_
  intro p e s m below meth c Q ls hx hb hml hown hts hK hNW hl hP hret
  have hl : lv_has ls 10 [(0, .ref (q 28)), (1, .int (iI (kk))), (2, .int (iI (tt)))] := hl
  have n := Wf_n hg
  have b := Wf_p hg hk.1 hk.2
  have pr := pk_rng hg hk.1 hk.2
  have at_ := Wf_at hg hk.1 (by omega)
  refine lv_aload_n hx hb dX3_lossAt_0 rfl (lv_at hl 0 rfl) ?_
  refine va_get (D := D) (ci := 3) (v := .ref (q 16)) (C := RX3) (T := TX3) (N := 4) hx hb hts (by decide +kernel) hown hK hP k28 h28 rfl 0 (by decide) (hts (.fieldLink RX3 9 "BreakSetter$Roster" "plan" "LBreakSetter$Plan;") (by decide +kernel)) (fun _ h9 => h9) rfl dX3_lossAt_1 ?_
  refine va_get (D := D) (ci := 1) (v := .ref (q 25)) (C := RX1) (T := TX1) (N := 17) hx hb hts (by decide +kernel) hown hK hP k16 h16 rfl 14 (by decide) (hts (.fieldLink RX3 76 "BreakSetter$Plan" "pauseLong" "[I") (by decide +kernel)) (fun _ h9 => h9) rfl dX3_lossAt_4 ?_
  refine lv_iload_n hx hb dX3_lossAt_7 rfl (lv_at hl 1 rfl) ?_
  refine j_iald hx hb hK hP k25 1 h25 rfl ⟨by omega, by omega⟩ (Nat.le_of_ble_eq_true rfl) dX3_lossAt_8 ?_
  refine W_wen (y := iI (g (189 + 5 * kk))) (congrArg iI (e25 kk (by omega) (by omega))) ?_
  refine lv_istore_n (lv' := [(3, .int (iI (g (189 + 5 * kk)))), (0, .ref (q 28)), (1, .int (iI (kk))), (2, .int (iI (tt)))]) hx hb dX3_lossAt_9 rfl hl (by decide) rfl (fun ls hl => ?_)
  refine lv_aload_n hx hb dX3_lossAt_10 rfl (lv_at hl 1 rfl) ?_
  refine va_get (D := D) (ci := 3) (v := .ref (q 16)) (C := RX3) (T := TX3) (N := 4) hx hb hts (by decide +kernel) hown hK hP k28 h28 rfl 0 (by decide) (hts (.fieldLink RX3 9 "BreakSetter$Roster" "plan" "LBreakSetter$Plan;") (by decide +kernel)) (fun _ h9 => h9) rfl dX3_lossAt_11 ?_
  refine lv_iload_n hx hb dX3_lossAt_14 rfl (lv_at hl 2 rfl) ?_
  refine lv_iload_n hx hb dX3_lossAt_15 rfl (lv_at hl 3 rfl) ?_
  refine CR_callV (As := [.int (iI (kk)), .int (iI (tt))]) (rest := []) ⟨hx, hb, hml, hown, hts⟩ (c_X1_cellOfPause hw.1 hg (by omega)) (cwV 2 hts gX3_lossAt_X1_cellOfPause rfl rfl rfl (by decide +kernel) ⟨Nat.le_of_ble_eq_true rfl, Nat.le_of_ble_eq_true rfl⟩) (q0 := k16) h16 rfl rfl hK hNW hP rfl hl.1 rfl (Nat.le_of_ble_eq_true rfl) dX3_lossAt_16 ⟨Nat.zero_le _, Nat.zero_le _⟩ ?_
  refine lv_istore (lv' := [(4, .int (iI (pk g kk * 48 + tt))), (3, .int (iI (g (189 + 5 * kk)))), (0, .ref (q 28)), (1, .int (iI (kk))), (2, .int (iI (tt)))]) hx hb dX3_lossAt_19 hl (by decide) rfl (fun ls hl => ?_)
  refine lv_aload_n hx hb dX3_lossAt_21 rfl (lv_at hl 2 rfl) ?_
  refine va_get (D := D) (ci := 3) (v := .ref (q 29)) (C := RX3) (T := TX3) (N := 4) hx hb hts (by decide +kernel) hown hK hP k28 h28 rfl 1 (by decide) (hts (.fieldLink RX3 15 "BreakSetter$Roster" "places" "[I") (by decide +kernel)) (fun _ h9 => h9) rfl dX3_lossAt_22 ?_
  refine lv_iload_n hx hb dX3_lossAt_25 rfl (lv_at hl 3 rfl) ?_
  refine j_iald hx hb hK hP k29 1 h29 rfl ⟨by omega, by omega⟩ (Nat.le_of_ble_eq_true rfl) dX3_lossAt_26 ?_
  refine W_wen (y := iI (g (192 + 5 * kk) - 1)) (congrArg iI (e29 kk (by omega) (by omega))) ?_
  refine lv_istore (lv' := [(5, .int (iI (g (192 + 5 * kk) - 1))), (4, .int (iI (pk g kk * 48 + tt))), (3, .int (iI (g (189 + 5 * kk)))), (0, .ref (q 28)), (1, .int (iI (kk))), (2, .int (iI (tt)))]) hx hb dX3_lossAt_27 hl (by decide) rfl (fun ls hl => ?_)
  refine lv_iload hx hb dX3_lossAt_29 (lv_at hl 0 rfl) ?_
  refine lv_iconst (v := iI (-1)) hx hb dX3_lossAt_31 rfl ?_
  refine j_icmp_ne (tgt := 39) hx hb dX3_lossAt_32 rfl ⟨by omega, by omega⟩ ⟨by decide, by decide⟩ (fun c32 => ?_) (fun c32 => ?_)
  · skip
    refine lv_aload_n hx hb dX3_lossAt_39 rfl (lv_at hl 3 rfl) ?_
    refine va_get (D := D) (ci := 3) (v := .ref (q 16)) (C := RX3) (T := TX3) (N := 4) hx hb hts (by decide +kernel) hown hK hP k28 h28 rfl 0 (by decide) (hts (.fieldLink RX3 9 "BreakSetter$Roster" "plan" "LBreakSetter$Plan;") (by decide +kernel)) (fun _ h9 => h9) rfl dX3_lossAt_40 ?_
    refine lv_iload_n hx hb dX3_lossAt_43 rfl (lv_at hl 4 rfl) ?_
    refine lv_iload hx hb dX3_lossAt_44 (lv_at hl 0 rfl) ?_
    refine CR_callV (As := [.int (iI (kk)), .int (iI (g (192 + 5 * kk) - 1))]) (rest := []) ⟨hx, hb, hml, hown, hts⟩ (c_X1_cellOfPause hw.1 hg (by omega)) (cwV 2 hts gX3_lossAt_X1_cellOfPause rfl rfl rfl (by decide +kernel) ⟨Nat.le_of_ble_eq_true rfl, Nat.le_of_ble_eq_true rfl⟩) (q0 := k16) h16 rfl rfl hK hNW hP rfl hl.1 rfl (Nat.le_of_ble_eq_true rfl) dX3_lossAt_46 ⟨Nat.zero_le _, Nat.zero_le _⟩ ?_
    have J49 : ∀ (ow : Int) (ls : Array Slot), ((g (192 + 5 * kk) - 1 = -1 ∧ ow = -1) ∨ (¬ g (192 + 5 * kk) - 1 = -1 ∧ ow = (pk g kk * 48 + (g (192 + 5 * kk) - 1)))) → (lv_has ls 10 [(5, .int (iI (g (192 + 5 * kk) - 1))), (4, .int (iI (pk g kk * 48 + tt))), (3, .int (iI (g (189 + 5 * kk)))), (0, .ref (q 28)), (1, .int (iI (kk))), (2, .int (iI (tt)))]) → W p l e (rmN 2 43) s m ([.ref (q 28), .int (iI (kk)), .int (iI (tt))] : List Value).toArray below meth c s.heap [] 0 0 Q (F0 m 49 ls [.int (iI (ow))]) := by
      intro ow ls hO hl
      refine lv_istore (lv' := [(6, .int (iI (ow))), (5, .int (iI (g (192 + 5 * kk) - 1))), (4, .int (iI (pk g kk * 48 + tt))), (3, .int (iI (g (189 + 5 * kk)))), (0, .ref (q 28)), (1, .int (iI (kk))), (2, .int (iI (tt)))]) hx hb dX3_lossAt_49 hl (by decide) rfl (fun ls hl => ?_)
      refine lv_iconst (v := iI (0)) hx hb dX3_lossAt_51 rfl ?_
      refine lv_istore (lv' := [(7, .int (iI (0))), (6, .int (iI (ow))), (5, .int (iI (g (192 + 5 * kk) - 1))), (4, .int (iI (pk g kk * 48 + tt))), (3, .int (iI (g (189 + 5 * kk)))), (0, .ref (q 28)), (1, .int (iI (kk))), (2, .int (iI (tt)))]) hx hb dX3_lossAt_52 hl (by decide) rfl (fun ls hl => ?_)
      refine lv_iload hx hb dX3_lossAt_54 (lv_at hl 3 rfl) ?_
      refine lv_istore (lv' := [(8, .int (iI (pk g kk * 48 + tt))), (7, .int (iI (0))), (6, .int (iI (ow))), (5, .int (iI (g (192 + 5 * kk) - 1))), (4, .int (iI (pk g kk * 48 + tt))), (3, .int (iI (g (189 + 5 * kk)))), (0, .ref (q 28)), (1, .int (iI (kk))), (2, .int (iI (tt)))]) hx hb dX3_lossAt_56 hl (by decide) rfl (fun ls hl => ?_)
      have L58 : ∀ (n : Nat) (i : Int) (r : Int) (ls : Array Slot), ((pk g kk * 48 + tt) ≤ i ∧ i ≤ (pk g kk * 48 + tt) + g (189 + 5 * kk)) → (r = sm (fun j => llo g (lie g kk (-1)) ((pk g kk * 48 + tt) + j)) (i - (pk g kk * 48 + tt)).toNat) → (((pk g kk * 48 + tt) + g (189 + 5 * kk) - i).toNat < n) → (lv_has ls 10 [(8, .int (iI (i))), (7, .int (iI (r))), (6, .int (iI (ow))), (5, .int (iI (g (192 + 5 * kk) - 1))), (4, .int (iI (pk g kk * 48 + tt))), (3, .int (iI (g (189 + 5 * kk)))), (0, .ref (q 28)), (1, .int (iI (kk))), (2, .int (iI (tt)))]) → W p l e (rmN 2 43) s m ([.ref (q 28), .int (iI (kk)), .int (iI (tt))] : List Value).toArray below meth c s.heap [] 0 0 Q (F0 m 58 ls []) := by
        intro n
        induction n with
        | zero => intro i r ls h1 h2 hn; exact absurd hn (Nat.not_lt_zero _)
        | succ n ih58 =>
          intro i r ls h1 h2 hn hl
          have hn58 := hn
          have r0 := smI_rng (f := fun j => llo g (lie g kk (-1)) ((pk g kk * 48 + tt) + j)) (a := 0) (b := 1) (i := i - (pk g kk * 48 + tt)) (by omega) (fun k _ _ => bI_rng _)
          rw [smI, ← h2] at r0
          refine lv_iload hx hb dX3_lossAt_58 (lv_at hl 0 rfl) ?_
          refine lv_iload hx hb dX3_lossAt_60 (lv_at hl 4 rfl) ?_
          refine lv_iload_n hx hb dX3_lossAt_62 rfl (lv_at hl 5 rfl) ?_
          refine j_iadd hx hb dX3_lossAt_63 ?_
          refine j_icmp_ge (tgt := 136) hx hb dX3_lossAt_64 rfl ⟨by omega, by omega⟩ ⟨by omega, by omega⟩ (fun c64 => ?_) (fun c64 => ?_)
          · skip
            refine lv_iload hx hb dX3_lossAt_136 (lv_at hl 1 rfl) ?_
            exact hret ls 138 _ dX3_lossAt_138 (congrArg iI (by rw [SF_loss hg hk.1 hk.2 ht, h2, show i - (pk g kk * 48 + tt) = g (189 + 5 * kk) by omega]))
          · skip
            have b4 := Wf_need hg (c := i) (by omega) (by omega)
            have b5 := cvc_rng hg i
            refine lv_iload hx hb dX3_lossAt_67 (lv_at hl 2 rfl) ?_
            refine lv_iconst (v := iI (-1)) hx hb dX3_lossAt_69 rfl ?_
            refine j_icmp_eq (tgt := 93) hx hb dX3_lossAt_70 rfl ⟨by omega, by omega⟩ ⟨by decide, by decide⟩ (fun c70 => ?_) (fun c70 => ?_)
            · skip
              refine lv_iconst (v := iI (0)) hx hb dX3_lossAt_93 rfl ?_
              have J94 : ∀ (aw : Int) (ls : Array Slot), (cvc g i + aw = cvc (lie g kk (-1)) i ∧ 0 ≤ aw ∧ aw ≤ 1) → (lv_has ls 10 [(8, .int (iI (i))), (7, .int (iI (r))), (6, .int (iI (ow))), (5, .int (iI (g (192 + 5 * kk) - 1))), (4, .int (iI (pk g kk * 48 + tt))), (3, .int (iI (g (189 + 5 * kk)))), (0, .ref (q 28)), (1, .int (iI (kk))), (2, .int (iI (tt)))]) → W p l e (rmN 2 43) s m ([.ref (q 28), .int (iI (kk)), .int (iI (tt))] : List Value).toArray below meth c s.heap [] 0 0 Q (F0 m 94 ls [.int (iI (aw))]) := by
                intro aw ls hW hl
                refine lv_istore (lv' := [(9, .int (iI (aw))), (8, .int (iI (i))), (7, .int (iI (r))), (6, .int (iI (ow))), (5, .int (iI (g (192 + 5 * kk) - 1))), (4, .int (iI (pk g kk * 48 + tt))), (3, .int (iI (g (189 + 5 * kk)))), (0, .ref (q 28)), (1, .int (iI (kk))), (2, .int (iI (tt)))]) hx hb dX3_lossAt_94 hl (by decide) rfl (fun ls hl => ?_)
                refine lv_aload_n hx hb dX3_lossAt_96 rfl (lv_at hl 7 rfl) ?_
                refine va_get (D := D) (ci := 3) (v := .ref (q 16)) (C := RX3) (T := TX3) (N := 4) hx hb hts (by decide +kernel) hown hK hP k28 h28 rfl 0 (by decide) (hts (.fieldLink RX3 9 "BreakSetter$Roster" "plan" "LBreakSetter$Plan;") (by decide +kernel)) (fun _ h9 => h9) rfl dX3_lossAt_97 ?_
                refine va_get (D := D) (ci := 1) (v := .ref (q 17)) (C := RX1) (T := TX1) (N := 17) hx hb hts (by decide +kernel) hown hK hP k16 h16 rfl 6 (by decide) (hts (.fieldLink RX3 57 "BreakSetter$Plan" "need" "[I") (by decide +kernel)) (fun _ h9 => h9) rfl dX3_lossAt_100 ?_
                refine lv_iload hx hb dX3_lossAt_103 (lv_at hl 1 rfl) ?_
                refine j_iald hx hb hK hP k17 1 h17 rfl ⟨by omega, by omega⟩ (Nat.le_of_ble_eq_true rfl) dX3_lossAt_105 ?_
                refine W_wen (y := iI (g (4 + i))) (congrArg iI (e17 i (by omega) (by omega))) ?_
                refine lv_aload_n hx hb dX3_lossAt_106 rfl (lv_at hl 7 rfl) ?_
                refine va_get (D := D) (ci := 3) (v := .ref (q 30)) (C := RX3) (T := TX3) (N := 4) hx hb hts (by decide +kernel) hown hK hP k28 h28 rfl 2 (by decide) (hts (.fieldLink RX3 19 "BreakSetter$Roster" "cover" "[I") (by decide +kernel)) (fun _ h9 => h9) rfl dX3_lossAt_107 ?_
                refine lv_iload hx hb dX3_lossAt_110 (lv_at hl 1 rfl) ?_
                refine j_iald hx hb hK hP k30 1 h30 rfl ⟨by omega, by omega⟩ (Nat.le_of_ble_eq_true rfl) dX3_lossAt_112 ?_
                refine W_wen (y := iI (cvc g i)) (congrArg iI (e30 i (by omega) (by omega))) ?_
                refine lv_iload hx hb dX3_lossAt_113 (lv_at hl 0 rfl) ?_
                refine j_if_eq (tgt := 122) hx hb dX3_lossAt_115 rfl ⟨by omega, by omega⟩ (fun c115 => ?_) (fun c115 => ?_)
                · skip
                  refine lv_iconst (v := iI (0)) hx hb dX3_lossAt_122 rfl ?_
                  have J123 : ∀ (a2 : Int) (ls : Array Slot), (a2 = aw) → (lv_has ls 10 [(9, .int (iI (aw))), (8, .int (iI (i))), (7, .int (iI (r))), (6, .int (iI (ow))), (5, .int (iI (g (192 + 5 * kk) - 1))), (4, .int (iI (pk g kk * 48 + tt))), (3, .int (iI (g (189 + 5 * kk)))), (0, .ref (q 28)), (1, .int (iI (kk))), (2, .int (iI (tt)))]) → W p l e (rmN 2 43) s m ([.ref (q 28), .int (iI (kk)), .int (iI (tt))] : List Value).toArray below meth c s.heap [] 0 0 Q (F0 m 123 ls [.int (iI (a2)), .int (iI (cvc g i)), .int (iI (g (4 + i)))]) := by
                    intro a2 ls hW2 hl
                    refine j_iadd hx hb dX3_lossAt_123 ?_
                    refine j_icmp_lt (tgt := 130) hx hb dX3_lossAt_124 rfl ⟨by omega, by omega⟩ ⟨by omega, by omega⟩ (fun c124 => ?_) (fun c124 => ?_)
                    · skip
                      refine j_iinc (k := 1) (lv' := [(8, .int (iI (i + 1))), (9, .int (iI (aw))), (7, .int (iI (r))), (6, .int (iI (ow))), (5, .int (iI (g (192 + 5 * kk) - 1))), (4, .int (iI (pk g kk * 48 + tt))), (3, .int (iI (g (189 + 5 * kk)))), (0, .ref (q 28)), (1, .int (iI (kk))), (2, .int (iI (tt)))]) hx hb dX3_lossAt_130 hl rfl (by decide) rfl (fun ls hl => ?_)
                      refine lv_goto (tgt := 58) hx hb dX3_lossAt_133 rfl ?_
                      exact ih58 (i + 1) r ls (by omega) (by rw [sm_at (a := (pk g kk * 48 + tt)) h1.1, ← h2]; unfold llo; first | (rw [bI_t (by omega)]; done) | (rw [bI_f (by omega)]; omega; done)) (by omega) (lv_sub hl [0, 2, 3, 4, 5, 6, 7, 8, 9] rfl)
                    · skip
                      refine j_iinc (k := 2) (lv' := [(7, .int (iI (r + 1))), (9, .int (iI (aw))), (8, .int (iI (i))), (6, .int (iI (ow))), (5, .int (iI (g (192 + 5 * kk) - 1))), (4, .int (iI (pk g kk * 48 + tt))), (3, .int (iI (g (189 + 5 * kk)))), (0, .ref (q 28)), (1, .int (iI (kk))), (2, .int (iI (tt)))]) hx hb dX3_lossAt_127 hl rfl (by decide) rfl (fun ls hl => ?_)
                      refine j_iinc (k := 2) (lv' := [(8, .int (iI (i + 1))), (7, .int (iI (r + 1))), (9, .int (iI (aw))), (6, .int (iI (ow))), (5, .int (iI (g (192 + 5 * kk) - 1))), (4, .int (iI (pk g kk * 48 + tt))), (3, .int (iI (g (189 + 5 * kk)))), (0, .ref (q 28)), (1, .int (iI (kk))), (2, .int (iI (tt)))]) hx hb dX3_lossAt_130 hl rfl (by decide) rfl (fun ls hl => ?_)
                      refine lv_goto (tgt := 58) hx hb dX3_lossAt_133 rfl ?_
                      exact ih58 (i + 1) (r + 1) ls (by omega) (by rw [sm_at (a := (pk g kk * 48 + tt)) h1.1, ← h2]; unfold llo; first | (rw [bI_t (by omega)]; done) | (rw [bI_f (by omega)]; omega; done)) (by omega) (lv_sub hl [0, 1, 3, 4, 5, 6, 7, 8, 9] rfl)
                  exact J123 0 ls (by omega)  (lv_sub hl [0, 1, 2, 3, 4, 5, 6, 7, 8, 9] rfl)
                · skip
                  refine lv_iconst (v := iI (1)) hx hb dX3_lossAt_118 rfl ?_
                  refine lv_goto (tgt := 123) hx hb dX3_lossAt_119 rfl ?_
                  have J123 : ∀ (a2 : Int) (ls : Array Slot), (a2 = aw) → (lv_has ls 10 [(9, .int (iI (aw))), (8, .int (iI (i))), (7, .int (iI (r))), (6, .int (iI (ow))), (5, .int (iI (g (192 + 5 * kk) - 1))), (4, .int (iI (pk g kk * 48 + tt))), (3, .int (iI (g (189 + 5 * kk)))), (0, .ref (q 28)), (1, .int (iI (kk))), (2, .int (iI (tt)))]) → W p l e (rmN 2 43) s m ([.ref (q 28), .int (iI (kk)), .int (iI (tt))] : List Value).toArray below meth c s.heap [] 0 0 Q (F0 m 123 ls [.int (iI (a2)), .int (iI (cvc g i)), .int (iI (g (4 + i)))]) := by
                    intro a2 ls hW2 hl
                    refine j_iadd hx hb dX3_lossAt_123 ?_
                    refine j_icmp_lt (tgt := 130) hx hb dX3_lossAt_124 rfl ⟨by omega, by omega⟩ ⟨by omega, by omega⟩ (fun c124 => ?_) (fun c124 => ?_)
                    · skip
                      refine j_iinc (k := 1) (lv' := [(8, .int (iI (i + 1))), (9, .int (iI (aw))), (7, .int (iI (r))), (6, .int (iI (ow))), (5, .int (iI (g (192 + 5 * kk) - 1))), (4, .int (iI (pk g kk * 48 + tt))), (3, .int (iI (g (189 + 5 * kk)))), (0, .ref (q 28)), (1, .int (iI (kk))), (2, .int (iI (tt)))]) hx hb dX3_lossAt_130 hl rfl (by decide) rfl (fun ls hl => ?_)
                      refine lv_goto (tgt := 58) hx hb dX3_lossAt_133 rfl ?_
                      exact ih58 (i + 1) r ls (by omega) (by rw [sm_at (a := (pk g kk * 48 + tt)) h1.1, ← h2]; unfold llo; first | (rw [bI_t (by omega)]; done) | (rw [bI_f (by omega)]; omega; done)) (by omega) (lv_sub hl [0, 2, 3, 4, 5, 6, 7, 8, 9] rfl)
                    · skip
                      refine j_iinc (k := 2) (lv' := [(7, .int (iI (r + 1))), (9, .int (iI (aw))), (8, .int (iI (i))), (6, .int (iI (ow))), (5, .int (iI (g (192 + 5 * kk) - 1))), (4, .int (iI (pk g kk * 48 + tt))), (3, .int (iI (g (189 + 5 * kk)))), (0, .ref (q 28)), (1, .int (iI (kk))), (2, .int (iI (tt)))]) hx hb dX3_lossAt_127 hl rfl (by decide) rfl (fun ls hl => ?_)
                      refine j_iinc (k := 2) (lv' := [(8, .int (iI (i + 1))), (7, .int (iI (r + 1))), (9, .int (iI (aw))), (6, .int (iI (ow))), (5, .int (iI (g (192 + 5 * kk) - 1))), (4, .int (iI (pk g kk * 48 + tt))), (3, .int (iI (g (189 + 5 * kk)))), (0, .ref (q 28)), (1, .int (iI (kk))), (2, .int (iI (tt)))]) hx hb dX3_lossAt_130 hl rfl (by decide) rfl (fun ls hl => ?_)
                      refine lv_goto (tgt := 58) hx hb dX3_lossAt_133 rfl ?_
                      exact ih58 (i + 1) (r + 1) ls (by omega) (by rw [sm_at (a := (pk g kk * 48 + tt)) h1.1, ← h2]; unfold llo; first | (rw [bI_t (by omega)]; done) | (rw [bI_f (by omega)]; omega; done)) (by omega) (lv_sub hl [0, 1, 3, 4, 5, 6, 7, 8, 9] rfl)
                  exact J123 1 ls (by omega)  (lv_sub hl [0, 1, 2, 3, 4, 5, 6, 7, 8, 9] rfl)
              exact J94 0 ls (by first | (rw [cvc_own0 hg hk.1 hk.2 (by omega)]; omega; done) | (have q := cvc_re hg hk.1 hk.2 (by omega) (c := i) (by omega); first | (rw [bI_t (by omega)] at q; omega; done) | (rw [bI_f (by omega)] at q; omega; done); done))  (lv_sub hl [0, 1, 2, 3, 4, 5, 6, 7, 8] rfl)
            · skip
              refine lv_iload hx hb dX3_lossAt_73 (lv_at hl 0 rfl) ?_
              refine lv_iload hx hb dX3_lossAt_75 (lv_at hl 2 rfl) ?_
              refine j_icmp_lt (tgt := 93) hx hb dX3_lossAt_77 rfl ⟨by omega, by omega⟩ ⟨by omega, by omega⟩ (fun c77 => ?_) (fun c77 => ?_)
              · skip
                refine lv_iconst (v := iI (0)) hx hb dX3_lossAt_93 rfl ?_
                have J94 : ∀ (aw : Int) (ls : Array Slot), (cvc g i + aw = cvc (lie g kk (-1)) i ∧ 0 ≤ aw ∧ aw ≤ 1) → (lv_has ls 10 [(8, .int (iI (i))), (7, .int (iI (r))), (6, .int (iI (ow))), (5, .int (iI (g (192 + 5 * kk) - 1))), (4, .int (iI (pk g kk * 48 + tt))), (3, .int (iI (g (189 + 5 * kk)))), (0, .ref (q 28)), (1, .int (iI (kk))), (2, .int (iI (tt)))]) → W p l e (rmN 2 43) s m ([.ref (q 28), .int (iI (kk)), .int (iI (tt))] : List Value).toArray below meth c s.heap [] 0 0 Q (F0 m 94 ls [.int (iI (aw))]) := by
                  intro aw ls hW hl
                  refine lv_istore (lv' := [(9, .int (iI (aw))), (8, .int (iI (i))), (7, .int (iI (r))), (6, .int (iI (ow))), (5, .int (iI (g (192 + 5 * kk) - 1))), (4, .int (iI (pk g kk * 48 + tt))), (3, .int (iI (g (189 + 5 * kk)))), (0, .ref (q 28)), (1, .int (iI (kk))), (2, .int (iI (tt)))]) hx hb dX3_lossAt_94 hl (by decide) rfl (fun ls hl => ?_)
                  refine lv_aload_n hx hb dX3_lossAt_96 rfl (lv_at hl 7 rfl) ?_
                  refine va_get (D := D) (ci := 3) (v := .ref (q 16)) (C := RX3) (T := TX3) (N := 4) hx hb hts (by decide +kernel) hown hK hP k28 h28 rfl 0 (by decide) (hts (.fieldLink RX3 9 "BreakSetter$Roster" "plan" "LBreakSetter$Plan;") (by decide +kernel)) (fun _ h9 => h9) rfl dX3_lossAt_97 ?_
                  refine va_get (D := D) (ci := 1) (v := .ref (q 17)) (C := RX1) (T := TX1) (N := 17) hx hb hts (by decide +kernel) hown hK hP k16 h16 rfl 6 (by decide) (hts (.fieldLink RX3 57 "BreakSetter$Plan" "need" "[I") (by decide +kernel)) (fun _ h9 => h9) rfl dX3_lossAt_100 ?_
                  refine lv_iload hx hb dX3_lossAt_103 (lv_at hl 1 rfl) ?_
                  refine j_iald hx hb hK hP k17 1 h17 rfl ⟨by omega, by omega⟩ (Nat.le_of_ble_eq_true rfl) dX3_lossAt_105 ?_
                  refine W_wen (y := iI (g (4 + i))) (congrArg iI (e17 i (by omega) (by omega))) ?_
                  refine lv_aload_n hx hb dX3_lossAt_106 rfl (lv_at hl 7 rfl) ?_
                  refine va_get (D := D) (ci := 3) (v := .ref (q 30)) (C := RX3) (T := TX3) (N := 4) hx hb hts (by decide +kernel) hown hK hP k28 h28 rfl 2 (by decide) (hts (.fieldLink RX3 19 "BreakSetter$Roster" "cover" "[I") (by decide +kernel)) (fun _ h9 => h9) rfl dX3_lossAt_107 ?_
                  refine lv_iload hx hb dX3_lossAt_110 (lv_at hl 1 rfl) ?_
                  refine j_iald hx hb hK hP k30 1 h30 rfl ⟨by omega, by omega⟩ (Nat.le_of_ble_eq_true rfl) dX3_lossAt_112 ?_
                  refine W_wen (y := iI (cvc g i)) (congrArg iI (e30 i (by omega) (by omega))) ?_
                  refine lv_iload hx hb dX3_lossAt_113 (lv_at hl 0 rfl) ?_
                  refine j_if_eq (tgt := 122) hx hb dX3_lossAt_115 rfl ⟨by omega, by omega⟩ (fun c115 => ?_) (fun c115 => ?_)
                  · skip
                    refine lv_iconst (v := iI (0)) hx hb dX3_lossAt_122 rfl ?_
                    have J123 : ∀ (a2 : Int) (ls : Array Slot), (a2 = aw) → (lv_has ls 10 [(9, .int (iI (aw))), (8, .int (iI (i))), (7, .int (iI (r))), (6, .int (iI (ow))), (5, .int (iI (g (192 + 5 * kk) - 1))), (4, .int (iI (pk g kk * 48 + tt))), (3, .int (iI (g (189 + 5 * kk)))), (0, .ref (q 28)), (1, .int (iI (kk))), (2, .int (iI (tt)))]) → W p l e (rmN 2 43) s m ([.ref (q 28), .int (iI (kk)), .int (iI (tt))] : List Value).toArray below meth c s.heap [] 0 0 Q (F0 m 123 ls [.int (iI (a2)), .int (iI (cvc g i)), .int (iI (g (4 + i)))]) := by
                      intro a2 ls hW2 hl
                      refine j_iadd hx hb dX3_lossAt_123 ?_
                      refine j_icmp_lt (tgt := 130) hx hb dX3_lossAt_124 rfl ⟨by omega, by omega⟩ ⟨by omega, by omega⟩ (fun c124 => ?_) (fun c124 => ?_)
                      · skip
                        refine j_iinc (k := 1) (lv' := [(8, .int (iI (i + 1))), (9, .int (iI (aw))), (7, .int (iI (r))), (6, .int (iI (ow))), (5, .int (iI (g (192 + 5 * kk) - 1))), (4, .int (iI (pk g kk * 48 + tt))), (3, .int (iI (g (189 + 5 * kk)))), (0, .ref (q 28)), (1, .int (iI (kk))), (2, .int (iI (tt)))]) hx hb dX3_lossAt_130 hl rfl (by decide) rfl (fun ls hl => ?_)
                        refine lv_goto (tgt := 58) hx hb dX3_lossAt_133 rfl ?_
                        exact ih58 (i + 1) r ls (by omega) (by rw [sm_at (a := (pk g kk * 48 + tt)) h1.1, ← h2]; unfold llo; first | (rw [bI_t (by omega)]; done) | (rw [bI_f (by omega)]; omega; done)) (by omega) (lv_sub hl [0, 2, 3, 4, 5, 6, 7, 8, 9] rfl)
                      · skip
                        refine j_iinc (k := 2) (lv' := [(7, .int (iI (r + 1))), (9, .int (iI (aw))), (8, .int (iI (i))), (6, .int (iI (ow))), (5, .int (iI (g (192 + 5 * kk) - 1))), (4, .int (iI (pk g kk * 48 + tt))), (3, .int (iI (g (189 + 5 * kk)))), (0, .ref (q 28)), (1, .int (iI (kk))), (2, .int (iI (tt)))]) hx hb dX3_lossAt_127 hl rfl (by decide) rfl (fun ls hl => ?_)
                        refine j_iinc (k := 2) (lv' := [(8, .int (iI (i + 1))), (7, .int (iI (r + 1))), (9, .int (iI (aw))), (6, .int (iI (ow))), (5, .int (iI (g (192 + 5 * kk) - 1))), (4, .int (iI (pk g kk * 48 + tt))), (3, .int (iI (g (189 + 5 * kk)))), (0, .ref (q 28)), (1, .int (iI (kk))), (2, .int (iI (tt)))]) hx hb dX3_lossAt_130 hl rfl (by decide) rfl (fun ls hl => ?_)
                        refine lv_goto (tgt := 58) hx hb dX3_lossAt_133 rfl ?_
                        exact ih58 (i + 1) (r + 1) ls (by omega) (by rw [sm_at (a := (pk g kk * 48 + tt)) h1.1, ← h2]; unfold llo; first | (rw [bI_t (by omega)]; done) | (rw [bI_f (by omega)]; omega; done)) (by omega) (lv_sub hl [0, 1, 3, 4, 5, 6, 7, 8, 9] rfl)
                    exact J123 0 ls (by omega)  (lv_sub hl [0, 1, 2, 3, 4, 5, 6, 7, 8, 9] rfl)
                  · skip
                    refine lv_iconst (v := iI (1)) hx hb dX3_lossAt_118 rfl ?_
                    refine lv_goto (tgt := 123) hx hb dX3_lossAt_119 rfl ?_
                    have J123 : ∀ (a2 : Int) (ls : Array Slot), (a2 = aw) → (lv_has ls 10 [(9, .int (iI (aw))), (8, .int (iI (i))), (7, .int (iI (r))), (6, .int (iI (ow))), (5, .int (iI (g (192 + 5 * kk) - 1))), (4, .int (iI (pk g kk * 48 + tt))), (3, .int (iI (g (189 + 5 * kk)))), (0, .ref (q 28)), (1, .int (iI (kk))), (2, .int (iI (tt)))]) → W p l e (rmN 2 43) s m ([.ref (q 28), .int (iI (kk)), .int (iI (tt))] : List Value).toArray below meth c s.heap [] 0 0 Q (F0 m 123 ls [.int (iI (a2)), .int (iI (cvc g i)), .int (iI (g (4 + i)))]) := by
                      intro a2 ls hW2 hl
                      refine j_iadd hx hb dX3_lossAt_123 ?_
                      refine j_icmp_lt (tgt := 130) hx hb dX3_lossAt_124 rfl ⟨by omega, by omega⟩ ⟨by omega, by omega⟩ (fun c124 => ?_) (fun c124 => ?_)
                      · skip
                        refine j_iinc (k := 1) (lv' := [(8, .int (iI (i + 1))), (9, .int (iI (aw))), (7, .int (iI (r))), (6, .int (iI (ow))), (5, .int (iI (g (192 + 5 * kk) - 1))), (4, .int (iI (pk g kk * 48 + tt))), (3, .int (iI (g (189 + 5 * kk)))), (0, .ref (q 28)), (1, .int (iI (kk))), (2, .int (iI (tt)))]) hx hb dX3_lossAt_130 hl rfl (by decide) rfl (fun ls hl => ?_)
                        refine lv_goto (tgt := 58) hx hb dX3_lossAt_133 rfl ?_
                        exact ih58 (i + 1) r ls (by omega) (by rw [sm_at (a := (pk g kk * 48 + tt)) h1.1, ← h2]; unfold llo; first | (rw [bI_t (by omega)]; done) | (rw [bI_f (by omega)]; omega; done)) (by omega) (lv_sub hl [0, 2, 3, 4, 5, 6, 7, 8, 9] rfl)
                      · skip
                        refine j_iinc (k := 2) (lv' := [(7, .int (iI (r + 1))), (9, .int (iI (aw))), (8, .int (iI (i))), (6, .int (iI (ow))), (5, .int (iI (g (192 + 5 * kk) - 1))), (4, .int (iI (pk g kk * 48 + tt))), (3, .int (iI (g (189 + 5 * kk)))), (0, .ref (q 28)), (1, .int (iI (kk))), (2, .int (iI (tt)))]) hx hb dX3_lossAt_127 hl rfl (by decide) rfl (fun ls hl => ?_)
                        refine j_iinc (k := 2) (lv' := [(8, .int (iI (i + 1))), (7, .int (iI (r + 1))), (9, .int (iI (aw))), (6, .int (iI (ow))), (5, .int (iI (g (192 + 5 * kk) - 1))), (4, .int (iI (pk g kk * 48 + tt))), (3, .int (iI (g (189 + 5 * kk)))), (0, .ref (q 28)), (1, .int (iI (kk))), (2, .int (iI (tt)))]) hx hb dX3_lossAt_130 hl rfl (by decide) rfl (fun ls hl => ?_)
                        refine lv_goto (tgt := 58) hx hb dX3_lossAt_133 rfl ?_
                        exact ih58 (i + 1) (r + 1) ls (by omega) (by rw [sm_at (a := (pk g kk * 48 + tt)) h1.1, ← h2]; unfold llo; first | (rw [bI_t (by omega)]; done) | (rw [bI_f (by omega)]; omega; done)) (by omega) (lv_sub hl [0, 1, 3, 4, 5, 6, 7, 8, 9] rfl)
                    exact J123 1 ls (by omega)  (lv_sub hl [0, 1, 2, 3, 4, 5, 6, 7, 8, 9] rfl)
                exact J94 0 ls (by first | (rw [cvc_own0 hg hk.1 hk.2 (by omega)]; omega; done) | (have q := cvc_re hg hk.1 hk.2 (by omega) (c := i) (by omega); first | (rw [bI_t (by omega)] at q; omega; done) | (rw [bI_f (by omega)] at q; omega; done); done))  (lv_sub hl [0, 1, 2, 3, 4, 5, 6, 7, 8] rfl)
              · skip
                refine lv_iload hx hb dX3_lossAt_80 (lv_at hl 0 rfl) ?_
                refine lv_iload hx hb dX3_lossAt_82 (lv_at hl 2 rfl) ?_
                refine lv_iload_n hx hb dX3_lossAt_84 rfl (lv_at hl 5 rfl) ?_
                refine j_iadd hx hb dX3_lossAt_85 ?_
                refine j_icmp_ge (tgt := 93) hx hb dX3_lossAt_86 rfl ⟨by omega, by omega⟩ ⟨by omega, by omega⟩ (fun c86 => ?_) (fun c86 => ?_)
                · skip
                  refine lv_iconst (v := iI (0)) hx hb dX3_lossAt_93 rfl ?_
                  have J94 : ∀ (aw : Int) (ls : Array Slot), (cvc g i + aw = cvc (lie g kk (-1)) i ∧ 0 ≤ aw ∧ aw ≤ 1) → (lv_has ls 10 [(8, .int (iI (i))), (7, .int (iI (r))), (6, .int (iI (ow))), (5, .int (iI (g (192 + 5 * kk) - 1))), (4, .int (iI (pk g kk * 48 + tt))), (3, .int (iI (g (189 + 5 * kk)))), (0, .ref (q 28)), (1, .int (iI (kk))), (2, .int (iI (tt)))]) → W p l e (rmN 2 43) s m ([.ref (q 28), .int (iI (kk)), .int (iI (tt))] : List Value).toArray below meth c s.heap [] 0 0 Q (F0 m 94 ls [.int (iI (aw))]) := by
                    intro aw ls hW hl
                    refine lv_istore (lv' := [(9, .int (iI (aw))), (8, .int (iI (i))), (7, .int (iI (r))), (6, .int (iI (ow))), (5, .int (iI (g (192 + 5 * kk) - 1))), (4, .int (iI (pk g kk * 48 + tt))), (3, .int (iI (g (189 + 5 * kk)))), (0, .ref (q 28)), (1, .int (iI (kk))), (2, .int (iI (tt)))]) hx hb dX3_lossAt_94 hl (by decide) rfl (fun ls hl => ?_)
                    refine lv_aload_n hx hb dX3_lossAt_96 rfl (lv_at hl 7 rfl) ?_
                    refine va_get (D := D) (ci := 3) (v := .ref (q 16)) (C := RX3) (T := TX3) (N := 4) hx hb hts (by decide +kernel) hown hK hP k28 h28 rfl 0 (by decide) (hts (.fieldLink RX3 9 "BreakSetter$Roster" "plan" "LBreakSetter$Plan;") (by decide +kernel)) (fun _ h9 => h9) rfl dX3_lossAt_97 ?_
                    refine va_get (D := D) (ci := 1) (v := .ref (q 17)) (C := RX1) (T := TX1) (N := 17) hx hb hts (by decide +kernel) hown hK hP k16 h16 rfl 6 (by decide) (hts (.fieldLink RX3 57 "BreakSetter$Plan" "need" "[I") (by decide +kernel)) (fun _ h9 => h9) rfl dX3_lossAt_100 ?_
                    refine lv_iload hx hb dX3_lossAt_103 (lv_at hl 1 rfl) ?_
                    refine j_iald hx hb hK hP k17 1 h17 rfl ⟨by omega, by omega⟩ (Nat.le_of_ble_eq_true rfl) dX3_lossAt_105 ?_
                    refine W_wen (y := iI (g (4 + i))) (congrArg iI (e17 i (by omega) (by omega))) ?_
                    refine lv_aload_n hx hb dX3_lossAt_106 rfl (lv_at hl 7 rfl) ?_
                    refine va_get (D := D) (ci := 3) (v := .ref (q 30)) (C := RX3) (T := TX3) (N := 4) hx hb hts (by decide +kernel) hown hK hP k28 h28 rfl 2 (by decide) (hts (.fieldLink RX3 19 "BreakSetter$Roster" "cover" "[I") (by decide +kernel)) (fun _ h9 => h9) rfl dX3_lossAt_107 ?_
                    refine lv_iload hx hb dX3_lossAt_110 (lv_at hl 1 rfl) ?_
                    refine j_iald hx hb hK hP k30 1 h30 rfl ⟨by omega, by omega⟩ (Nat.le_of_ble_eq_true rfl) dX3_lossAt_112 ?_
                    refine W_wen (y := iI (cvc g i)) (congrArg iI (e30 i (by omega) (by omega))) ?_
                    refine lv_iload hx hb dX3_lossAt_113 (lv_at hl 0 rfl) ?_
                    refine j_if_eq (tgt := 122) hx hb dX3_lossAt_115 rfl ⟨by omega, by omega⟩ (fun c115 => ?_) (fun c115 => ?_)
                    · skip
                      refine lv_iconst (v := iI (0)) hx hb dX3_lossAt_122 rfl ?_
                      have J123 : ∀ (a2 : Int) (ls : Array Slot), (a2 = aw) → (lv_has ls 10 [(9, .int (iI (aw))), (8, .int (iI (i))), (7, .int (iI (r))), (6, .int (iI (ow))), (5, .int (iI (g (192 + 5 * kk) - 1))), (4, .int (iI (pk g kk * 48 + tt))), (3, .int (iI (g (189 + 5 * kk)))), (0, .ref (q 28)), (1, .int (iI (kk))), (2, .int (iI (tt)))]) → W p l e (rmN 2 43) s m ([.ref (q 28), .int (iI (kk)), .int (iI (tt))] : List Value).toArray below meth c s.heap [] 0 0 Q (F0 m 123 ls [.int (iI (a2)), .int (iI (cvc g i)), .int (iI (g (4 + i)))]) := by
                        intro a2 ls hW2 hl
                        refine j_iadd hx hb dX3_lossAt_123 ?_
                        refine j_icmp_lt (tgt := 130) hx hb dX3_lossAt_124 rfl ⟨by omega, by omega⟩ ⟨by omega, by omega⟩ (fun c124 => ?_) (fun c124 => ?_)
                        · skip
                          refine j_iinc (k := 1) (lv' := [(8, .int (iI (i + 1))), (9, .int (iI (aw))), (7, .int (iI (r))), (6, .int (iI (ow))), (5, .int (iI (g (192 + 5 * kk) - 1))), (4, .int (iI (pk g kk * 48 + tt))), (3, .int (iI (g (189 + 5 * kk)))), (0, .ref (q 28)), (1, .int (iI (kk))), (2, .int (iI (tt)))]) hx hb dX3_lossAt_130 hl rfl (by decide) rfl (fun ls hl => ?_)
                          refine lv_goto (tgt := 58) hx hb dX3_lossAt_133 rfl ?_
                          exact ih58 (i + 1) r ls (by omega) (by rw [sm_at (a := (pk g kk * 48 + tt)) h1.1, ← h2]; unfold llo; first | (rw [bI_t (by omega)]; done) | (rw [bI_f (by omega)]; omega; done)) (by omega) (lv_sub hl [0, 2, 3, 4, 5, 6, 7, 8, 9] rfl)
                        · skip
                          refine j_iinc (k := 2) (lv' := [(7, .int (iI (r + 1))), (9, .int (iI (aw))), (8, .int (iI (i))), (6, .int (iI (ow))), (5, .int (iI (g (192 + 5 * kk) - 1))), (4, .int (iI (pk g kk * 48 + tt))), (3, .int (iI (g (189 + 5 * kk)))), (0, .ref (q 28)), (1, .int (iI (kk))), (2, .int (iI (tt)))]) hx hb dX3_lossAt_127 hl rfl (by decide) rfl (fun ls hl => ?_)
                          refine j_iinc (k := 2) (lv' := [(8, .int (iI (i + 1))), (7, .int (iI (r + 1))), (9, .int (iI (aw))), (6, .int (iI (ow))), (5, .int (iI (g (192 + 5 * kk) - 1))), (4, .int (iI (pk g kk * 48 + tt))), (3, .int (iI (g (189 + 5 * kk)))), (0, .ref (q 28)), (1, .int (iI (kk))), (2, .int (iI (tt)))]) hx hb dX3_lossAt_130 hl rfl (by decide) rfl (fun ls hl => ?_)
                          refine lv_goto (tgt := 58) hx hb dX3_lossAt_133 rfl ?_
                          exact ih58 (i + 1) (r + 1) ls (by omega) (by rw [sm_at (a := (pk g kk * 48 + tt)) h1.1, ← h2]; unfold llo; first | (rw [bI_t (by omega)]; done) | (rw [bI_f (by omega)]; omega; done)) (by omega) (lv_sub hl [0, 1, 3, 4, 5, 6, 7, 8, 9] rfl)
                      exact J123 0 ls (by omega)  (lv_sub hl [0, 1, 2, 3, 4, 5, 6, 7, 8, 9] rfl)
                    · skip
                      refine lv_iconst (v := iI (1)) hx hb dX3_lossAt_118 rfl ?_
                      refine lv_goto (tgt := 123) hx hb dX3_lossAt_119 rfl ?_
                      have J123 : ∀ (a2 : Int) (ls : Array Slot), (a2 = aw) → (lv_has ls 10 [(9, .int (iI (aw))), (8, .int (iI (i))), (7, .int (iI (r))), (6, .int (iI (ow))), (5, .int (iI (g (192 + 5 * kk) - 1))), (4, .int (iI (pk g kk * 48 + tt))), (3, .int (iI (g (189 + 5 * kk)))), (0, .ref (q 28)), (1, .int (iI (kk))), (2, .int (iI (tt)))]) → W p l e (rmN 2 43) s m ([.ref (q 28), .int (iI (kk)), .int (iI (tt))] : List Value).toArray below meth c s.heap [] 0 0 Q (F0 m 123 ls [.int (iI (a2)), .int (iI (cvc g i)), .int (iI (g (4 + i)))]) := by
                        intro a2 ls hW2 hl
                        refine j_iadd hx hb dX3_lossAt_123 ?_
                        refine j_icmp_lt (tgt := 130) hx hb dX3_lossAt_124 rfl ⟨by omega, by omega⟩ ⟨by omega, by omega⟩ (fun c124 => ?_) (fun c124 => ?_)
                        · skip
                          refine j_iinc (k := 1) (lv' := [(8, .int (iI (i + 1))), (9, .int (iI (aw))), (7, .int (iI (r))), (6, .int (iI (ow))), (5, .int (iI (g (192 + 5 * kk) - 1))), (4, .int (iI (pk g kk * 48 + tt))), (3, .int (iI (g (189 + 5 * kk)))), (0, .ref (q 28)), (1, .int (iI (kk))), (2, .int (iI (tt)))]) hx hb dX3_lossAt_130 hl rfl (by decide) rfl (fun ls hl => ?_)
                          refine lv_goto (tgt := 58) hx hb dX3_lossAt_133 rfl ?_
                          exact ih58 (i + 1) r ls (by omega) (by rw [sm_at (a := (pk g kk * 48 + tt)) h1.1, ← h2]; unfold llo; first | (rw [bI_t (by omega)]; done) | (rw [bI_f (by omega)]; omega; done)) (by omega) (lv_sub hl [0, 2, 3, 4, 5, 6, 7, 8, 9] rfl)
                        · skip
                          refine j_iinc (k := 2) (lv' := [(7, .int (iI (r + 1))), (9, .int (iI (aw))), (8, .int (iI (i))), (6, .int (iI (ow))), (5, .int (iI (g (192 + 5 * kk) - 1))), (4, .int (iI (pk g kk * 48 + tt))), (3, .int (iI (g (189 + 5 * kk)))), (0, .ref (q 28)), (1, .int (iI (kk))), (2, .int (iI (tt)))]) hx hb dX3_lossAt_127 hl rfl (by decide) rfl (fun ls hl => ?_)
                          refine j_iinc (k := 2) (lv' := [(8, .int (iI (i + 1))), (7, .int (iI (r + 1))), (9, .int (iI (aw))), (6, .int (iI (ow))), (5, .int (iI (g (192 + 5 * kk) - 1))), (4, .int (iI (pk g kk * 48 + tt))), (3, .int (iI (g (189 + 5 * kk)))), (0, .ref (q 28)), (1, .int (iI (kk))), (2, .int (iI (tt)))]) hx hb dX3_lossAt_130 hl rfl (by decide) rfl (fun ls hl => ?_)
                          refine lv_goto (tgt := 58) hx hb dX3_lossAt_133 rfl ?_
                          exact ih58 (i + 1) (r + 1) ls (by omega) (by rw [sm_at (a := (pk g kk * 48 + tt)) h1.1, ← h2]; unfold llo; first | (rw [bI_t (by omega)]; done) | (rw [bI_f (by omega)]; omega; done)) (by omega) (lv_sub hl [0, 1, 3, 4, 5, 6, 7, 8, 9] rfl)
                      exact J123 1 ls (by omega)  (lv_sub hl [0, 1, 2, 3, 4, 5, 6, 7, 8, 9] rfl)
                  exact J94 0 ls (by first | (rw [cvc_own0 hg hk.1 hk.2 (by omega)]; omega; done) | (have q := cvc_re hg hk.1 hk.2 (by omega) (c := i) (by omega); first | (rw [bI_t (by omega)] at q; omega; done) | (rw [bI_f (by omega)] at q; omega; done); done))  (lv_sub hl [0, 1, 2, 3, 4, 5, 6, 7, 8] rfl)
                · skip
                  refine lv_iconst (v := iI (1)) hx hb dX3_lossAt_89 rfl ?_
                  refine lv_goto (tgt := 94) hx hb dX3_lossAt_90 rfl ?_
                  have J94 : ∀ (aw : Int) (ls : Array Slot), (cvc g i + aw = cvc (lie g kk (-1)) i ∧ 0 ≤ aw ∧ aw ≤ 1) → (lv_has ls 10 [(8, .int (iI (i))), (7, .int (iI (r))), (6, .int (iI (ow))), (5, .int (iI (g (192 + 5 * kk) - 1))), (4, .int (iI (pk g kk * 48 + tt))), (3, .int (iI (g (189 + 5 * kk)))), (0, .ref (q 28)), (1, .int (iI (kk))), (2, .int (iI (tt)))]) → W p l e (rmN 2 43) s m ([.ref (q 28), .int (iI (kk)), .int (iI (tt))] : List Value).toArray below meth c s.heap [] 0 0 Q (F0 m 94 ls [.int (iI (aw))]) := by
                    intro aw ls hW hl
                    refine lv_istore (lv' := [(9, .int (iI (aw))), (8, .int (iI (i))), (7, .int (iI (r))), (6, .int (iI (ow))), (5, .int (iI (g (192 + 5 * kk) - 1))), (4, .int (iI (pk g kk * 48 + tt))), (3, .int (iI (g (189 + 5 * kk)))), (0, .ref (q 28)), (1, .int (iI (kk))), (2, .int (iI (tt)))]) hx hb dX3_lossAt_94 hl (by decide) rfl (fun ls hl => ?_)
                    refine lv_aload_n hx hb dX3_lossAt_96 rfl (lv_at hl 7 rfl) ?_
                    refine va_get (D := D) (ci := 3) (v := .ref (q 16)) (C := RX3) (T := TX3) (N := 4) hx hb hts (by decide +kernel) hown hK hP k28 h28 rfl 0 (by decide) (hts (.fieldLink RX3 9 "BreakSetter$Roster" "plan" "LBreakSetter$Plan;") (by decide +kernel)) (fun _ h9 => h9) rfl dX3_lossAt_97 ?_
                    refine va_get (D := D) (ci := 1) (v := .ref (q 17)) (C := RX1) (T := TX1) (N := 17) hx hb hts (by decide +kernel) hown hK hP k16 h16 rfl 6 (by decide) (hts (.fieldLink RX3 57 "BreakSetter$Plan" "need" "[I") (by decide +kernel)) (fun _ h9 => h9) rfl dX3_lossAt_100 ?_
                    refine lv_iload hx hb dX3_lossAt_103 (lv_at hl 1 rfl) ?_
                    refine j_iald hx hb hK hP k17 1 h17 rfl ⟨by omega, by omega⟩ (Nat.le_of_ble_eq_true rfl) dX3_lossAt_105 ?_
                    refine W_wen (y := iI (g (4 + i))) (congrArg iI (e17 i (by omega) (by omega))) ?_
                    refine lv_aload_n hx hb dX3_lossAt_106 rfl (lv_at hl 7 rfl) ?_
                    refine va_get (D := D) (ci := 3) (v := .ref (q 30)) (C := RX3) (T := TX3) (N := 4) hx hb hts (by decide +kernel) hown hK hP k28 h28 rfl 2 (by decide) (hts (.fieldLink RX3 19 "BreakSetter$Roster" "cover" "[I") (by decide +kernel)) (fun _ h9 => h9) rfl dX3_lossAt_107 ?_
                    refine lv_iload hx hb dX3_lossAt_110 (lv_at hl 1 rfl) ?_
                    refine j_iald hx hb hK hP k30 1 h30 rfl ⟨by omega, by omega⟩ (Nat.le_of_ble_eq_true rfl) dX3_lossAt_112 ?_
                    refine W_wen (y := iI (cvc g i)) (congrArg iI (e30 i (by omega) (by omega))) ?_
                    refine lv_iload hx hb dX3_lossAt_113 (lv_at hl 0 rfl) ?_
                    refine j_if_eq (tgt := 122) hx hb dX3_lossAt_115 rfl ⟨by omega, by omega⟩ (fun c115 => ?_) (fun c115 => ?_)
                    · skip
                      refine lv_iconst (v := iI (0)) hx hb dX3_lossAt_122 rfl ?_
                      have J123 : ∀ (a2 : Int) (ls : Array Slot), (a2 = aw) → (lv_has ls 10 [(9, .int (iI (aw))), (8, .int (iI (i))), (7, .int (iI (r))), (6, .int (iI (ow))), (5, .int (iI (g (192 + 5 * kk) - 1))), (4, .int (iI (pk g kk * 48 + tt))), (3, .int (iI (g (189 + 5 * kk)))), (0, .ref (q 28)), (1, .int (iI (kk))), (2, .int (iI (tt)))]) → W p l e (rmN 2 43) s m ([.ref (q 28), .int (iI (kk)), .int (iI (tt))] : List Value).toArray below meth c s.heap [] 0 0 Q (F0 m 123 ls [.int (iI (a2)), .int (iI (cvc g i)), .int (iI (g (4 + i)))]) := by
                        intro a2 ls hW2 hl
                        refine j_iadd hx hb dX3_lossAt_123 ?_
                        refine j_icmp_lt (tgt := 130) hx hb dX3_lossAt_124 rfl ⟨by omega, by omega⟩ ⟨by omega, by omega⟩ (fun c124 => ?_) (fun c124 => ?_)
                        · skip
                          refine j_iinc (k := 1) (lv' := [(8, .int (iI (i + 1))), (9, .int (iI (aw))), (7, .int (iI (r))), (6, .int (iI (ow))), (5, .int (iI (g (192 + 5 * kk) - 1))), (4, .int (iI (pk g kk * 48 + tt))), (3, .int (iI (g (189 + 5 * kk)))), (0, .ref (q 28)), (1, .int (iI (kk))), (2, .int (iI (tt)))]) hx hb dX3_lossAt_130 hl rfl (by decide) rfl (fun ls hl => ?_)
                          refine lv_goto (tgt := 58) hx hb dX3_lossAt_133 rfl ?_
                          exact ih58 (i + 1) r ls (by omega) (by rw [sm_at (a := (pk g kk * 48 + tt)) h1.1, ← h2]; unfold llo; first | (rw [bI_t (by omega)]; done) | (rw [bI_f (by omega)]; omega; done)) (by omega) (lv_sub hl [0, 2, 3, 4, 5, 6, 7, 8, 9] rfl)
                        · skip
                          refine j_iinc (k := 2) (lv' := [(7, .int (iI (r + 1))), (9, .int (iI (aw))), (8, .int (iI (i))), (6, .int (iI (ow))), (5, .int (iI (g (192 + 5 * kk) - 1))), (4, .int (iI (pk g kk * 48 + tt))), (3, .int (iI (g (189 + 5 * kk)))), (0, .ref (q 28)), (1, .int (iI (kk))), (2, .int (iI (tt)))]) hx hb dX3_lossAt_127 hl rfl (by decide) rfl (fun ls hl => ?_)
                          refine j_iinc (k := 2) (lv' := [(8, .int (iI (i + 1))), (7, .int (iI (r + 1))), (9, .int (iI (aw))), (6, .int (iI (ow))), (5, .int (iI (g (192 + 5 * kk) - 1))), (4, .int (iI (pk g kk * 48 + tt))), (3, .int (iI (g (189 + 5 * kk)))), (0, .ref (q 28)), (1, .int (iI (kk))), (2, .int (iI (tt)))]) hx hb dX3_lossAt_130 hl rfl (by decide) rfl (fun ls hl => ?_)
                          refine lv_goto (tgt := 58) hx hb dX3_lossAt_133 rfl ?_
                          exact ih58 (i + 1) (r + 1) ls (by omega) (by rw [sm_at (a := (pk g kk * 48 + tt)) h1.1, ← h2]; unfold llo; first | (rw [bI_t (by omega)]; done) | (rw [bI_f (by omega)]; omega; done)) (by omega) (lv_sub hl [0, 1, 3, 4, 5, 6, 7, 8, 9] rfl)
                      exact J123 0 ls (by omega)  (lv_sub hl [0, 1, 2, 3, 4, 5, 6, 7, 8, 9] rfl)
                    · skip
                      refine lv_iconst (v := iI (1)) hx hb dX3_lossAt_118 rfl ?_
                      refine lv_goto (tgt := 123) hx hb dX3_lossAt_119 rfl ?_
                      have J123 : ∀ (a2 : Int) (ls : Array Slot), (a2 = aw) → (lv_has ls 10 [(9, .int (iI (aw))), (8, .int (iI (i))), (7, .int (iI (r))), (6, .int (iI (ow))), (5, .int (iI (g (192 + 5 * kk) - 1))), (4, .int (iI (pk g kk * 48 + tt))), (3, .int (iI (g (189 + 5 * kk)))), (0, .ref (q 28)), (1, .int (iI (kk))), (2, .int (iI (tt)))]) → W p l e (rmN 2 43) s m ([.ref (q 28), .int (iI (kk)), .int (iI (tt))] : List Value).toArray below meth c s.heap [] 0 0 Q (F0 m 123 ls [.int (iI (a2)), .int (iI (cvc g i)), .int (iI (g (4 + i)))]) := by
                        intro a2 ls hW2 hl
                        refine j_iadd hx hb dX3_lossAt_123 ?_
                        refine j_icmp_lt (tgt := 130) hx hb dX3_lossAt_124 rfl ⟨by omega, by omega⟩ ⟨by omega, by omega⟩ (fun c124 => ?_) (fun c124 => ?_)
                        · skip
                          refine j_iinc (k := 1) (lv' := [(8, .int (iI (i + 1))), (9, .int (iI (aw))), (7, .int (iI (r))), (6, .int (iI (ow))), (5, .int (iI (g (192 + 5 * kk) - 1))), (4, .int (iI (pk g kk * 48 + tt))), (3, .int (iI (g (189 + 5 * kk)))), (0, .ref (q 28)), (1, .int (iI (kk))), (2, .int (iI (tt)))]) hx hb dX3_lossAt_130 hl rfl (by decide) rfl (fun ls hl => ?_)
                          refine lv_goto (tgt := 58) hx hb dX3_lossAt_133 rfl ?_
                          exact ih58 (i + 1) r ls (by omega) (by rw [sm_at (a := (pk g kk * 48 + tt)) h1.1, ← h2]; unfold llo; first | (rw [bI_t (by omega)]; done) | (rw [bI_f (by omega)]; omega; done)) (by omega) (lv_sub hl [0, 2, 3, 4, 5, 6, 7, 8, 9] rfl)
                        · skip
                          refine j_iinc (k := 2) (lv' := [(7, .int (iI (r + 1))), (9, .int (iI (aw))), (8, .int (iI (i))), (6, .int (iI (ow))), (5, .int (iI (g (192 + 5 * kk) - 1))), (4, .int (iI (pk g kk * 48 + tt))), (3, .int (iI (g (189 + 5 * kk)))), (0, .ref (q 28)), (1, .int (iI (kk))), (2, .int (iI (tt)))]) hx hb dX3_lossAt_127 hl rfl (by decide) rfl (fun ls hl => ?_)
                          refine j_iinc (k := 2) (lv' := [(8, .int (iI (i + 1))), (7, .int (iI (r + 1))), (9, .int (iI (aw))), (6, .int (iI (ow))), (5, .int (iI (g (192 + 5 * kk) - 1))), (4, .int (iI (pk g kk * 48 + tt))), (3, .int (iI (g (189 + 5 * kk)))), (0, .ref (q 28)), (1, .int (iI (kk))), (2, .int (iI (tt)))]) hx hb dX3_lossAt_130 hl rfl (by decide) rfl (fun ls hl => ?_)
                          refine lv_goto (tgt := 58) hx hb dX3_lossAt_133 rfl ?_
                          exact ih58 (i + 1) (r + 1) ls (by omega) (by rw [sm_at (a := (pk g kk * 48 + tt)) h1.1, ← h2]; unfold llo; first | (rw [bI_t (by omega)]; done) | (rw [bI_f (by omega)]; omega; done)) (by omega) (lv_sub hl [0, 1, 3, 4, 5, 6, 7, 8, 9] rfl)
                      exact J123 1 ls (by omega)  (lv_sub hl [0, 1, 2, 3, 4, 5, 6, 7, 8, 9] rfl)
                  exact J94 1 ls (by first | (rw [cvc_own0 hg hk.1 hk.2 (by omega)]; omega; done) | (have q := cvc_re hg hk.1 hk.2 (by omega) (c := i) (by omega); first | (rw [bI_t (by omega)] at q; omega; done) | (rw [bI_f (by omega)] at q; omega; done); done))  (lv_sub hl [0, 1, 2, 3, 4, 5, 6, 7, 8] rfl)
      exact L58 _ (pk g kk * 48 + tt) 0 ls (by omega) (by rw [Int.sub_self]; rfl) (Nat.lt_succ_self _) (lv_sub hl [0, 1, 2, 3, 4, 5, 6, 7, 8] rfl)
    exact J49 (pk g kk * 48 + (g (192 + 5 * kk) - 1)) ls (Or.inr ⟨c32, rfl⟩)  (lv_sub hl [0, 1, 2, 3, 4, 5] rfl)
  · skip
    refine lv_iconst (v := iI (-1)) hx hb dX3_lossAt_35 rfl ?_
    refine lv_goto (tgt := 49) hx hb dX3_lossAt_36 rfl ?_
    have J49 : ∀ (ow : Int) (ls : Array Slot), ((g (192 + 5 * kk) - 1 = -1 ∧ ow = -1) ∨ (¬ g (192 + 5 * kk) - 1 = -1 ∧ ow = (pk g kk * 48 + (g (192 + 5 * kk) - 1)))) → (lv_has ls 10 [(5, .int (iI (g (192 + 5 * kk) - 1))), (4, .int (iI (pk g kk * 48 + tt))), (3, .int (iI (g (189 + 5 * kk)))), (0, .ref (q 28)), (1, .int (iI (kk))), (2, .int (iI (tt)))]) → W p l e (rmN 2 43) s m ([.ref (q 28), .int (iI (kk)), .int (iI (tt))] : List Value).toArray below meth c s.heap [] 0 0 Q (F0 m 49 ls [.int (iI (ow))]) := by
      intro ow ls hO hl
      refine lv_istore (lv' := [(6, .int (iI (ow))), (5, .int (iI (g (192 + 5 * kk) - 1))), (4, .int (iI (pk g kk * 48 + tt))), (3, .int (iI (g (189 + 5 * kk)))), (0, .ref (q 28)), (1, .int (iI (kk))), (2, .int (iI (tt)))]) hx hb dX3_lossAt_49 hl (by decide) rfl (fun ls hl => ?_)
      refine lv_iconst (v := iI (0)) hx hb dX3_lossAt_51 rfl ?_
      refine lv_istore (lv' := [(7, .int (iI (0))), (6, .int (iI (ow))), (5, .int (iI (g (192 + 5 * kk) - 1))), (4, .int (iI (pk g kk * 48 + tt))), (3, .int (iI (g (189 + 5 * kk)))), (0, .ref (q 28)), (1, .int (iI (kk))), (2, .int (iI (tt)))]) hx hb dX3_lossAt_52 hl (by decide) rfl (fun ls hl => ?_)
      refine lv_iload hx hb dX3_lossAt_54 (lv_at hl 3 rfl) ?_
      refine lv_istore (lv' := [(8, .int (iI (pk g kk * 48 + tt))), (7, .int (iI (0))), (6, .int (iI (ow))), (5, .int (iI (g (192 + 5 * kk) - 1))), (4, .int (iI (pk g kk * 48 + tt))), (3, .int (iI (g (189 + 5 * kk)))), (0, .ref (q 28)), (1, .int (iI (kk))), (2, .int (iI (tt)))]) hx hb dX3_lossAt_56 hl (by decide) rfl (fun ls hl => ?_)
      have L58 : ∀ (n : Nat) (i : Int) (r : Int) (ls : Array Slot), ((pk g kk * 48 + tt) ≤ i ∧ i ≤ (pk g kk * 48 + tt) + g (189 + 5 * kk)) → (r = sm (fun j => llo g (lie g kk (-1)) ((pk g kk * 48 + tt) + j)) (i - (pk g kk * 48 + tt)).toNat) → (((pk g kk * 48 + tt) + g (189 + 5 * kk) - i).toNat < n) → (lv_has ls 10 [(8, .int (iI (i))), (7, .int (iI (r))), (6, .int (iI (ow))), (5, .int (iI (g (192 + 5 * kk) - 1))), (4, .int (iI (pk g kk * 48 + tt))), (3, .int (iI (g (189 + 5 * kk)))), (0, .ref (q 28)), (1, .int (iI (kk))), (2, .int (iI (tt)))]) → W p l e (rmN 2 43) s m ([.ref (q 28), .int (iI (kk)), .int (iI (tt))] : List Value).toArray below meth c s.heap [] 0 0 Q (F0 m 58 ls []) := by
        intro n
        induction n with
        | zero => intro i r ls h1 h2 hn; exact absurd hn (Nat.not_lt_zero _)
        | succ n ih58 =>
          intro i r ls h1 h2 hn hl
          have hn58 := hn
          have r0 := smI_rng (f := fun j => llo g (lie g kk (-1)) ((pk g kk * 48 + tt) + j)) (a := 0) (b := 1) (i := i - (pk g kk * 48 + tt)) (by omega) (fun k _ _ => bI_rng _)
          rw [smI, ← h2] at r0
          refine lv_iload hx hb dX3_lossAt_58 (lv_at hl 0 rfl) ?_
          refine lv_iload hx hb dX3_lossAt_60 (lv_at hl 4 rfl) ?_
          refine lv_iload_n hx hb dX3_lossAt_62 rfl (lv_at hl 5 rfl) ?_
          refine j_iadd hx hb dX3_lossAt_63 ?_
          refine j_icmp_ge (tgt := 136) hx hb dX3_lossAt_64 rfl ⟨by omega, by omega⟩ ⟨by omega, by omega⟩ (fun c64 => ?_) (fun c64 => ?_)
          · skip
            refine lv_iload hx hb dX3_lossAt_136 (lv_at hl 1 rfl) ?_
            exact hret ls 138 _ dX3_lossAt_138 (congrArg iI (by rw [SF_loss hg hk.1 hk.2 ht, h2, show i - (pk g kk * 48 + tt) = g (189 + 5 * kk) by omega]))
          · skip
            have b4 := Wf_need hg (c := i) (by omega) (by omega)
            have b5 := cvc_rng hg i
            refine lv_iload hx hb dX3_lossAt_67 (lv_at hl 2 rfl) ?_
            refine lv_iconst (v := iI (-1)) hx hb dX3_lossAt_69 rfl ?_
            refine j_icmp_eq (tgt := 93) hx hb dX3_lossAt_70 rfl ⟨by omega, by omega⟩ ⟨by decide, by decide⟩ (fun c70 => ?_) (fun c70 => ?_)
            · skip
              refine lv_iconst (v := iI (0)) hx hb dX3_lossAt_93 rfl ?_
              have J94 : ∀ (aw : Int) (ls : Array Slot), (cvc g i + aw = cvc (lie g kk (-1)) i ∧ 0 ≤ aw ∧ aw ≤ 1) → (lv_has ls 10 [(8, .int (iI (i))), (7, .int (iI (r))), (6, .int (iI (ow))), (5, .int (iI (g (192 + 5 * kk) - 1))), (4, .int (iI (pk g kk * 48 + tt))), (3, .int (iI (g (189 + 5 * kk)))), (0, .ref (q 28)), (1, .int (iI (kk))), (2, .int (iI (tt)))]) → W p l e (rmN 2 43) s m ([.ref (q 28), .int (iI (kk)), .int (iI (tt))] : List Value).toArray below meth c s.heap [] 0 0 Q (F0 m 94 ls [.int (iI (aw))]) := by
                intro aw ls hW hl
                refine lv_istore (lv' := [(9, .int (iI (aw))), (8, .int (iI (i))), (7, .int (iI (r))), (6, .int (iI (ow))), (5, .int (iI (g (192 + 5 * kk) - 1))), (4, .int (iI (pk g kk * 48 + tt))), (3, .int (iI (g (189 + 5 * kk)))), (0, .ref (q 28)), (1, .int (iI (kk))), (2, .int (iI (tt)))]) hx hb dX3_lossAt_94 hl (by decide) rfl (fun ls hl => ?_)
                refine lv_aload_n hx hb dX3_lossAt_96 rfl (lv_at hl 7 rfl) ?_
                refine va_get (D := D) (ci := 3) (v := .ref (q 16)) (C := RX3) (T := TX3) (N := 4) hx hb hts (by decide +kernel) hown hK hP k28 h28 rfl 0 (by decide) (hts (.fieldLink RX3 9 "BreakSetter$Roster" "plan" "LBreakSetter$Plan;") (by decide +kernel)) (fun _ h9 => h9) rfl dX3_lossAt_97 ?_
                refine va_get (D := D) (ci := 1) (v := .ref (q 17)) (C := RX1) (T := TX1) (N := 17) hx hb hts (by decide +kernel) hown hK hP k16 h16 rfl 6 (by decide) (hts (.fieldLink RX3 57 "BreakSetter$Plan" "need" "[I") (by decide +kernel)) (fun _ h9 => h9) rfl dX3_lossAt_100 ?_
                refine lv_iload hx hb dX3_lossAt_103 (lv_at hl 1 rfl) ?_
                refine j_iald hx hb hK hP k17 1 h17 rfl ⟨by omega, by omega⟩ (Nat.le_of_ble_eq_true rfl) dX3_lossAt_105 ?_
                refine W_wen (y := iI (g (4 + i))) (congrArg iI (e17 i (by omega) (by omega))) ?_
                refine lv_aload_n hx hb dX3_lossAt_106 rfl (lv_at hl 7 rfl) ?_
                refine va_get (D := D) (ci := 3) (v := .ref (q 30)) (C := RX3) (T := TX3) (N := 4) hx hb hts (by decide +kernel) hown hK hP k28 h28 rfl 2 (by decide) (hts (.fieldLink RX3 19 "BreakSetter$Roster" "cover" "[I") (by decide +kernel)) (fun _ h9 => h9) rfl dX3_lossAt_107 ?_
                refine lv_iload hx hb dX3_lossAt_110 (lv_at hl 1 rfl) ?_
                refine j_iald hx hb hK hP k30 1 h30 rfl ⟨by omega, by omega⟩ (Nat.le_of_ble_eq_true rfl) dX3_lossAt_112 ?_
                refine W_wen (y := iI (cvc g i)) (congrArg iI (e30 i (by omega) (by omega))) ?_
                refine lv_iload hx hb dX3_lossAt_113 (lv_at hl 0 rfl) ?_
                refine j_if_eq (tgt := 122) hx hb dX3_lossAt_115 rfl ⟨by omega, by omega⟩ (fun c115 => ?_) (fun c115 => ?_)
                · skip
                  refine lv_iconst (v := iI (0)) hx hb dX3_lossAt_122 rfl ?_
                  have J123 : ∀ (a2 : Int) (ls : Array Slot), (a2 = aw) → (lv_has ls 10 [(9, .int (iI (aw))), (8, .int (iI (i))), (7, .int (iI (r))), (6, .int (iI (ow))), (5, .int (iI (g (192 + 5 * kk) - 1))), (4, .int (iI (pk g kk * 48 + tt))), (3, .int (iI (g (189 + 5 * kk)))), (0, .ref (q 28)), (1, .int (iI (kk))), (2, .int (iI (tt)))]) → W p l e (rmN 2 43) s m ([.ref (q 28), .int (iI (kk)), .int (iI (tt))] : List Value).toArray below meth c s.heap [] 0 0 Q (F0 m 123 ls [.int (iI (a2)), .int (iI (cvc g i)), .int (iI (g (4 + i)))]) := by
                    intro a2 ls hW2 hl
                    refine j_iadd hx hb dX3_lossAt_123 ?_
                    refine j_icmp_lt (tgt := 130) hx hb dX3_lossAt_124 rfl ⟨by omega, by omega⟩ ⟨by omega, by omega⟩ (fun c124 => ?_) (fun c124 => ?_)
                    · skip
                      refine j_iinc (k := 1) (lv' := [(8, .int (iI (i + 1))), (9, .int (iI (aw))), (7, .int (iI (r))), (6, .int (iI (ow))), (5, .int (iI (g (192 + 5 * kk) - 1))), (4, .int (iI (pk g kk * 48 + tt))), (3, .int (iI (g (189 + 5 * kk)))), (0, .ref (q 28)), (1, .int (iI (kk))), (2, .int (iI (tt)))]) hx hb dX3_lossAt_130 hl rfl (by decide) rfl (fun ls hl => ?_)
                      refine lv_goto (tgt := 58) hx hb dX3_lossAt_133 rfl ?_
                      exact ih58 (i + 1) r ls (by omega) (by rw [sm_at (a := (pk g kk * 48 + tt)) h1.1, ← h2]; unfold llo; first | (rw [bI_t (by omega)]; done) | (rw [bI_f (by omega)]; omega; done)) (by omega) (lv_sub hl [0, 2, 3, 4, 5, 6, 7, 8, 9] rfl)
                    · skip
                      refine j_iinc (k := 2) (lv' := [(7, .int (iI (r + 1))), (9, .int (iI (aw))), (8, .int (iI (i))), (6, .int (iI (ow))), (5, .int (iI (g (192 + 5 * kk) - 1))), (4, .int (iI (pk g kk * 48 + tt))), (3, .int (iI (g (189 + 5 * kk)))), (0, .ref (q 28)), (1, .int (iI (kk))), (2, .int (iI (tt)))]) hx hb dX3_lossAt_127 hl rfl (by decide) rfl (fun ls hl => ?_)
                      refine j_iinc (k := 2) (lv' := [(8, .int (iI (i + 1))), (7, .int (iI (r + 1))), (9, .int (iI (aw))), (6, .int (iI (ow))), (5, .int (iI (g (192 + 5 * kk) - 1))), (4, .int (iI (pk g kk * 48 + tt))), (3, .int (iI (g (189 + 5 * kk)))), (0, .ref (q 28)), (1, .int (iI (kk))), (2, .int (iI (tt)))]) hx hb dX3_lossAt_130 hl rfl (by decide) rfl (fun ls hl => ?_)
                      refine lv_goto (tgt := 58) hx hb dX3_lossAt_133 rfl ?_
                      exact ih58 (i + 1) (r + 1) ls (by omega) (by rw [sm_at (a := (pk g kk * 48 + tt)) h1.1, ← h2]; unfold llo; first | (rw [bI_t (by omega)]; done) | (rw [bI_f (by omega)]; omega; done)) (by omega) (lv_sub hl [0, 1, 3, 4, 5, 6, 7, 8, 9] rfl)
                  exact J123 0 ls (by omega)  (lv_sub hl [0, 1, 2, 3, 4, 5, 6, 7, 8, 9] rfl)
                · skip
                  refine lv_iconst (v := iI (1)) hx hb dX3_lossAt_118 rfl ?_
                  refine lv_goto (tgt := 123) hx hb dX3_lossAt_119 rfl ?_
                  have J123 : ∀ (a2 : Int) (ls : Array Slot), (a2 = aw) → (lv_has ls 10 [(9, .int (iI (aw))), (8, .int (iI (i))), (7, .int (iI (r))), (6, .int (iI (ow))), (5, .int (iI (g (192 + 5 * kk) - 1))), (4, .int (iI (pk g kk * 48 + tt))), (3, .int (iI (g (189 + 5 * kk)))), (0, .ref (q 28)), (1, .int (iI (kk))), (2, .int (iI (tt)))]) → W p l e (rmN 2 43) s m ([.ref (q 28), .int (iI (kk)), .int (iI (tt))] : List Value).toArray below meth c s.heap [] 0 0 Q (F0 m 123 ls [.int (iI (a2)), .int (iI (cvc g i)), .int (iI (g (4 + i)))]) := by
                    intro a2 ls hW2 hl
                    refine j_iadd hx hb dX3_lossAt_123 ?_
                    refine j_icmp_lt (tgt := 130) hx hb dX3_lossAt_124 rfl ⟨by omega, by omega⟩ ⟨by omega, by omega⟩ (fun c124 => ?_) (fun c124 => ?_)
                    · skip
                      refine j_iinc (k := 1) (lv' := [(8, .int (iI (i + 1))), (9, .int (iI (aw))), (7, .int (iI (r))), (6, .int (iI (ow))), (5, .int (iI (g (192 + 5 * kk) - 1))), (4, .int (iI (pk g kk * 48 + tt))), (3, .int (iI (g (189 + 5 * kk)))), (0, .ref (q 28)), (1, .int (iI (kk))), (2, .int (iI (tt)))]) hx hb dX3_lossAt_130 hl rfl (by decide) rfl (fun ls hl => ?_)
                      refine lv_goto (tgt := 58) hx hb dX3_lossAt_133 rfl ?_
                      exact ih58 (i + 1) r ls (by omega) (by rw [sm_at (a := (pk g kk * 48 + tt)) h1.1, ← h2]; unfold llo; first | (rw [bI_t (by omega)]; done) | (rw [bI_f (by omega)]; omega; done)) (by omega) (lv_sub hl [0, 2, 3, 4, 5, 6, 7, 8, 9] rfl)
                    · skip
                      refine j_iinc (k := 2) (lv' := [(7, .int (iI (r + 1))), (9, .int (iI (aw))), (8, .int (iI (i))), (6, .int (iI (ow))), (5, .int (iI (g (192 + 5 * kk) - 1))), (4, .int (iI (pk g kk * 48 + tt))), (3, .int (iI (g (189 + 5 * kk)))), (0, .ref (q 28)), (1, .int (iI (kk))), (2, .int (iI (tt)))]) hx hb dX3_lossAt_127 hl rfl (by decide) rfl (fun ls hl => ?_)
                      refine j_iinc (k := 2) (lv' := [(8, .int (iI (i + 1))), (7, .int (iI (r + 1))), (9, .int (iI (aw))), (6, .int (iI (ow))), (5, .int (iI (g (192 + 5 * kk) - 1))), (4, .int (iI (pk g kk * 48 + tt))), (3, .int (iI (g (189 + 5 * kk)))), (0, .ref (q 28)), (1, .int (iI (kk))), (2, .int (iI (tt)))]) hx hb dX3_lossAt_130 hl rfl (by decide) rfl (fun ls hl => ?_)
                      refine lv_goto (tgt := 58) hx hb dX3_lossAt_133 rfl ?_
                      exact ih58 (i + 1) (r + 1) ls (by omega) (by rw [sm_at (a := (pk g kk * 48 + tt)) h1.1, ← h2]; unfold llo; first | (rw [bI_t (by omega)]; done) | (rw [bI_f (by omega)]; omega; done)) (by omega) (lv_sub hl [0, 1, 3, 4, 5, 6, 7, 8, 9] rfl)
                  exact J123 1 ls (by omega)  (lv_sub hl [0, 1, 2, 3, 4, 5, 6, 7, 8, 9] rfl)
              exact J94 0 ls (by first | (rw [cvc_own0 hg hk.1 hk.2 (by omega)]; omega; done) | (have q := cvc_re hg hk.1 hk.2 (by omega) (c := i) (by omega); first | (rw [bI_t (by omega)] at q; omega; done) | (rw [bI_f (by omega)] at q; omega; done); done))  (lv_sub hl [0, 1, 2, 3, 4, 5, 6, 7, 8] rfl)
            · skip
              refine lv_iload hx hb dX3_lossAt_73 (lv_at hl 0 rfl) ?_
              refine lv_iload hx hb dX3_lossAt_75 (lv_at hl 2 rfl) ?_
              refine j_icmp_lt (tgt := 93) hx hb dX3_lossAt_77 rfl ⟨by omega, by omega⟩ ⟨by omega, by omega⟩ (fun c77 => ?_) (fun c77 => ?_)
              · skip
                refine lv_iconst (v := iI (0)) hx hb dX3_lossAt_93 rfl ?_
                have J94 : ∀ (aw : Int) (ls : Array Slot), (cvc g i + aw = cvc (lie g kk (-1)) i ∧ 0 ≤ aw ∧ aw ≤ 1) → (lv_has ls 10 [(8, .int (iI (i))), (7, .int (iI (r))), (6, .int (iI (ow))), (5, .int (iI (g (192 + 5 * kk) - 1))), (4, .int (iI (pk g kk * 48 + tt))), (3, .int (iI (g (189 + 5 * kk)))), (0, .ref (q 28)), (1, .int (iI (kk))), (2, .int (iI (tt)))]) → W p l e (rmN 2 43) s m ([.ref (q 28), .int (iI (kk)), .int (iI (tt))] : List Value).toArray below meth c s.heap [] 0 0 Q (F0 m 94 ls [.int (iI (aw))]) := by
                  intro aw ls hW hl
                  refine lv_istore (lv' := [(9, .int (iI (aw))), (8, .int (iI (i))), (7, .int (iI (r))), (6, .int (iI (ow))), (5, .int (iI (g (192 + 5 * kk) - 1))), (4, .int (iI (pk g kk * 48 + tt))), (3, .int (iI (g (189 + 5 * kk)))), (0, .ref (q 28)), (1, .int (iI (kk))), (2, .int (iI (tt)))]) hx hb dX3_lossAt_94 hl (by decide) rfl (fun ls hl => ?_)
                  refine lv_aload_n hx hb dX3_lossAt_96 rfl (lv_at hl 7 rfl) ?_
                  refine va_get (D := D) (ci := 3) (v := .ref (q 16)) (C := RX3) (T := TX3) (N := 4) hx hb hts (by decide +kernel) hown hK hP k28 h28 rfl 0 (by decide) (hts (.fieldLink RX3 9 "BreakSetter$Roster" "plan" "LBreakSetter$Plan;") (by decide +kernel)) (fun _ h9 => h9) rfl dX3_lossAt_97 ?_
                  refine va_get (D := D) (ci := 1) (v := .ref (q 17)) (C := RX1) (T := TX1) (N := 17) hx hb hts (by decide +kernel) hown hK hP k16 h16 rfl 6 (by decide) (hts (.fieldLink RX3 57 "BreakSetter$Plan" "need" "[I") (by decide +kernel)) (fun _ h9 => h9) rfl dX3_lossAt_100 ?_
                  refine lv_iload hx hb dX3_lossAt_103 (lv_at hl 1 rfl) ?_
                  refine j_iald hx hb hK hP k17 1 h17 rfl ⟨by omega, by omega⟩ (Nat.le_of_ble_eq_true rfl) dX3_lossAt_105 ?_
                  refine W_wen (y := iI (g (4 + i))) (congrArg iI (e17 i (by omega) (by omega))) ?_
                  refine lv_aload_n hx hb dX3_lossAt_106 rfl (lv_at hl 7 rfl) ?_
                  refine va_get (D := D) (ci := 3) (v := .ref (q 30)) (C := RX3) (T := TX3) (N := 4) hx hb hts (by decide +kernel) hown hK hP k28 h28 rfl 2 (by decide) (hts (.fieldLink RX3 19 "BreakSetter$Roster" "cover" "[I") (by decide +kernel)) (fun _ h9 => h9) rfl dX3_lossAt_107 ?_
                  refine lv_iload hx hb dX3_lossAt_110 (lv_at hl 1 rfl) ?_
                  refine j_iald hx hb hK hP k30 1 h30 rfl ⟨by omega, by omega⟩ (Nat.le_of_ble_eq_true rfl) dX3_lossAt_112 ?_
                  refine W_wen (y := iI (cvc g i)) (congrArg iI (e30 i (by omega) (by omega))) ?_
                  refine lv_iload hx hb dX3_lossAt_113 (lv_at hl 0 rfl) ?_
                  refine j_if_eq (tgt := 122) hx hb dX3_lossAt_115 rfl ⟨by omega, by omega⟩ (fun c115 => ?_) (fun c115 => ?_)
                  · skip
                    refine lv_iconst (v := iI (0)) hx hb dX3_lossAt_122 rfl ?_
                    have J123 : ∀ (a2 : Int) (ls : Array Slot), (a2 = aw) → (lv_has ls 10 [(9, .int (iI (aw))), (8, .int (iI (i))), (7, .int (iI (r))), (6, .int (iI (ow))), (5, .int (iI (g (192 + 5 * kk) - 1))), (4, .int (iI (pk g kk * 48 + tt))), (3, .int (iI (g (189 + 5 * kk)))), (0, .ref (q 28)), (1, .int (iI (kk))), (2, .int (iI (tt)))]) → W p l e (rmN 2 43) s m ([.ref (q 28), .int (iI (kk)), .int (iI (tt))] : List Value).toArray below meth c s.heap [] 0 0 Q (F0 m 123 ls [.int (iI (a2)), .int (iI (cvc g i)), .int (iI (g (4 + i)))]) := by
                      intro a2 ls hW2 hl
                      refine j_iadd hx hb dX3_lossAt_123 ?_
                      refine j_icmp_lt (tgt := 130) hx hb dX3_lossAt_124 rfl ⟨by omega, by omega⟩ ⟨by omega, by omega⟩ (fun c124 => ?_) (fun c124 => ?_)
                      · skip
                        refine j_iinc (k := 1) (lv' := [(8, .int (iI (i + 1))), (9, .int (iI (aw))), (7, .int (iI (r))), (6, .int (iI (ow))), (5, .int (iI (g (192 + 5 * kk) - 1))), (4, .int (iI (pk g kk * 48 + tt))), (3, .int (iI (g (189 + 5 * kk)))), (0, .ref (q 28)), (1, .int (iI (kk))), (2, .int (iI (tt)))]) hx hb dX3_lossAt_130 hl rfl (by decide) rfl (fun ls hl => ?_)
                        refine lv_goto (tgt := 58) hx hb dX3_lossAt_133 rfl ?_
                        exact ih58 (i + 1) r ls (by omega) (by rw [sm_at (a := (pk g kk * 48 + tt)) h1.1, ← h2]; unfold llo; first | (rw [bI_t (by omega)]; done) | (rw [bI_f (by omega)]; omega; done)) (by omega) (lv_sub hl [0, 2, 3, 4, 5, 6, 7, 8, 9] rfl)
                      · skip
                        refine j_iinc (k := 2) (lv' := [(7, .int (iI (r + 1))), (9, .int (iI (aw))), (8, .int (iI (i))), (6, .int (iI (ow))), (5, .int (iI (g (192 + 5 * kk) - 1))), (4, .int (iI (pk g kk * 48 + tt))), (3, .int (iI (g (189 + 5 * kk)))), (0, .ref (q 28)), (1, .int (iI (kk))), (2, .int (iI (tt)))]) hx hb dX3_lossAt_127 hl rfl (by decide) rfl (fun ls hl => ?_)
                        refine j_iinc (k := 2) (lv' := [(8, .int (iI (i + 1))), (7, .int (iI (r + 1))), (9, .int (iI (aw))), (6, .int (iI (ow))), (5, .int (iI (g (192 + 5 * kk) - 1))), (4, .int (iI (pk g kk * 48 + tt))), (3, .int (iI (g (189 + 5 * kk)))), (0, .ref (q 28)), (1, .int (iI (kk))), (2, .int (iI (tt)))]) hx hb dX3_lossAt_130 hl rfl (by decide) rfl (fun ls hl => ?_)
                        refine lv_goto (tgt := 58) hx hb dX3_lossAt_133 rfl ?_
                        exact ih58 (i + 1) (r + 1) ls (by omega) (by rw [sm_at (a := (pk g kk * 48 + tt)) h1.1, ← h2]; unfold llo; first | (rw [bI_t (by omega)]; done) | (rw [bI_f (by omega)]; omega; done)) (by omega) (lv_sub hl [0, 1, 3, 4, 5, 6, 7, 8, 9] rfl)
                    exact J123 0 ls (by omega)  (lv_sub hl [0, 1, 2, 3, 4, 5, 6, 7, 8, 9] rfl)
                  · skip
                    refine lv_iconst (v := iI (1)) hx hb dX3_lossAt_118 rfl ?_
                    refine lv_goto (tgt := 123) hx hb dX3_lossAt_119 rfl ?_
                    have J123 : ∀ (a2 : Int) (ls : Array Slot), (a2 = aw) → (lv_has ls 10 [(9, .int (iI (aw))), (8, .int (iI (i))), (7, .int (iI (r))), (6, .int (iI (ow))), (5, .int (iI (g (192 + 5 * kk) - 1))), (4, .int (iI (pk g kk * 48 + tt))), (3, .int (iI (g (189 + 5 * kk)))), (0, .ref (q 28)), (1, .int (iI (kk))), (2, .int (iI (tt)))]) → W p l e (rmN 2 43) s m ([.ref (q 28), .int (iI (kk)), .int (iI (tt))] : List Value).toArray below meth c s.heap [] 0 0 Q (F0 m 123 ls [.int (iI (a2)), .int (iI (cvc g i)), .int (iI (g (4 + i)))]) := by
                      intro a2 ls hW2 hl
                      refine j_iadd hx hb dX3_lossAt_123 ?_
                      refine j_icmp_lt (tgt := 130) hx hb dX3_lossAt_124 rfl ⟨by omega, by omega⟩ ⟨by omega, by omega⟩ (fun c124 => ?_) (fun c124 => ?_)
                      · skip
                        refine j_iinc (k := 1) (lv' := [(8, .int (iI (i + 1))), (9, .int (iI (aw))), (7, .int (iI (r))), (6, .int (iI (ow))), (5, .int (iI (g (192 + 5 * kk) - 1))), (4, .int (iI (pk g kk * 48 + tt))), (3, .int (iI (g (189 + 5 * kk)))), (0, .ref (q 28)), (1, .int (iI (kk))), (2, .int (iI (tt)))]) hx hb dX3_lossAt_130 hl rfl (by decide) rfl (fun ls hl => ?_)
                        refine lv_goto (tgt := 58) hx hb dX3_lossAt_133 rfl ?_
                        exact ih58 (i + 1) r ls (by omega) (by rw [sm_at (a := (pk g kk * 48 + tt)) h1.1, ← h2]; unfold llo; first | (rw [bI_t (by omega)]; done) | (rw [bI_f (by omega)]; omega; done)) (by omega) (lv_sub hl [0, 2, 3, 4, 5, 6, 7, 8, 9] rfl)
                      · skip
                        refine j_iinc (k := 2) (lv' := [(7, .int (iI (r + 1))), (9, .int (iI (aw))), (8, .int (iI (i))), (6, .int (iI (ow))), (5, .int (iI (g (192 + 5 * kk) - 1))), (4, .int (iI (pk g kk * 48 + tt))), (3, .int (iI (g (189 + 5 * kk)))), (0, .ref (q 28)), (1, .int (iI (kk))), (2, .int (iI (tt)))]) hx hb dX3_lossAt_127 hl rfl (by decide) rfl (fun ls hl => ?_)
                        refine j_iinc (k := 2) (lv' := [(8, .int (iI (i + 1))), (7, .int (iI (r + 1))), (9, .int (iI (aw))), (6, .int (iI (ow))), (5, .int (iI (g (192 + 5 * kk) - 1))), (4, .int (iI (pk g kk * 48 + tt))), (3, .int (iI (g (189 + 5 * kk)))), (0, .ref (q 28)), (1, .int (iI (kk))), (2, .int (iI (tt)))]) hx hb dX3_lossAt_130 hl rfl (by decide) rfl (fun ls hl => ?_)
                        refine lv_goto (tgt := 58) hx hb dX3_lossAt_133 rfl ?_
                        exact ih58 (i + 1) (r + 1) ls (by omega) (by rw [sm_at (a := (pk g kk * 48 + tt)) h1.1, ← h2]; unfold llo; first | (rw [bI_t (by omega)]; done) | (rw [bI_f (by omega)]; omega; done)) (by omega) (lv_sub hl [0, 1, 3, 4, 5, 6, 7, 8, 9] rfl)
                    exact J123 1 ls (by omega)  (lv_sub hl [0, 1, 2, 3, 4, 5, 6, 7, 8, 9] rfl)
                exact J94 0 ls (by first | (rw [cvc_own0 hg hk.1 hk.2 (by omega)]; omega; done) | (have q := cvc_re hg hk.1 hk.2 (by omega) (c := i) (by omega); first | (rw [bI_t (by omega)] at q; omega; done) | (rw [bI_f (by omega)] at q; omega; done); done))  (lv_sub hl [0, 1, 2, 3, 4, 5, 6, 7, 8] rfl)
              · skip
                refine lv_iload hx hb dX3_lossAt_80 (lv_at hl 0 rfl) ?_
                refine lv_iload hx hb dX3_lossAt_82 (lv_at hl 2 rfl) ?_
                refine lv_iload_n hx hb dX3_lossAt_84 rfl (lv_at hl 5 rfl) ?_
                refine j_iadd hx hb dX3_lossAt_85 ?_
                refine j_icmp_ge (tgt := 93) hx hb dX3_lossAt_86 rfl ⟨by omega, by omega⟩ ⟨by omega, by omega⟩ (fun c86 => ?_) (fun c86 => ?_)
                · skip
                  refine lv_iconst (v := iI (0)) hx hb dX3_lossAt_93 rfl ?_
                  have J94 : ∀ (aw : Int) (ls : Array Slot), (cvc g i + aw = cvc (lie g kk (-1)) i ∧ 0 ≤ aw ∧ aw ≤ 1) → (lv_has ls 10 [(8, .int (iI (i))), (7, .int (iI (r))), (6, .int (iI (ow))), (5, .int (iI (g (192 + 5 * kk) - 1))), (4, .int (iI (pk g kk * 48 + tt))), (3, .int (iI (g (189 + 5 * kk)))), (0, .ref (q 28)), (1, .int (iI (kk))), (2, .int (iI (tt)))]) → W p l e (rmN 2 43) s m ([.ref (q 28), .int (iI (kk)), .int (iI (tt))] : List Value).toArray below meth c s.heap [] 0 0 Q (F0 m 94 ls [.int (iI (aw))]) := by
                    intro aw ls hW hl
                    refine lv_istore (lv' := [(9, .int (iI (aw))), (8, .int (iI (i))), (7, .int (iI (r))), (6, .int (iI (ow))), (5, .int (iI (g (192 + 5 * kk) - 1))), (4, .int (iI (pk g kk * 48 + tt))), (3, .int (iI (g (189 + 5 * kk)))), (0, .ref (q 28)), (1, .int (iI (kk))), (2, .int (iI (tt)))]) hx hb dX3_lossAt_94 hl (by decide) rfl (fun ls hl => ?_)
                    refine lv_aload_n hx hb dX3_lossAt_96 rfl (lv_at hl 7 rfl) ?_
                    refine va_get (D := D) (ci := 3) (v := .ref (q 16)) (C := RX3) (T := TX3) (N := 4) hx hb hts (by decide +kernel) hown hK hP k28 h28 rfl 0 (by decide) (hts (.fieldLink RX3 9 "BreakSetter$Roster" "plan" "LBreakSetter$Plan;") (by decide +kernel)) (fun _ h9 => h9) rfl dX3_lossAt_97 ?_
                    refine va_get (D := D) (ci := 1) (v := .ref (q 17)) (C := RX1) (T := TX1) (N := 17) hx hb hts (by decide +kernel) hown hK hP k16 h16 rfl 6 (by decide) (hts (.fieldLink RX3 57 "BreakSetter$Plan" "need" "[I") (by decide +kernel)) (fun _ h9 => h9) rfl dX3_lossAt_100 ?_
                    refine lv_iload hx hb dX3_lossAt_103 (lv_at hl 1 rfl) ?_
                    refine j_iald hx hb hK hP k17 1 h17 rfl ⟨by omega, by omega⟩ (Nat.le_of_ble_eq_true rfl) dX3_lossAt_105 ?_
                    refine W_wen (y := iI (g (4 + i))) (congrArg iI (e17 i (by omega) (by omega))) ?_
                    refine lv_aload_n hx hb dX3_lossAt_106 rfl (lv_at hl 7 rfl) ?_
                    refine va_get (D := D) (ci := 3) (v := .ref (q 30)) (C := RX3) (T := TX3) (N := 4) hx hb hts (by decide +kernel) hown hK hP k28 h28 rfl 2 (by decide) (hts (.fieldLink RX3 19 "BreakSetter$Roster" "cover" "[I") (by decide +kernel)) (fun _ h9 => h9) rfl dX3_lossAt_107 ?_
                    refine lv_iload hx hb dX3_lossAt_110 (lv_at hl 1 rfl) ?_
                    refine j_iald hx hb hK hP k30 1 h30 rfl ⟨by omega, by omega⟩ (Nat.le_of_ble_eq_true rfl) dX3_lossAt_112 ?_
                    refine W_wen (y := iI (cvc g i)) (congrArg iI (e30 i (by omega) (by omega))) ?_
                    refine lv_iload hx hb dX3_lossAt_113 (lv_at hl 0 rfl) ?_
                    refine j_if_eq (tgt := 122) hx hb dX3_lossAt_115 rfl ⟨by omega, by omega⟩ (fun c115 => ?_) (fun c115 => ?_)
                    · skip
                      refine lv_iconst (v := iI (0)) hx hb dX3_lossAt_122 rfl ?_
                      have J123 : ∀ (a2 : Int) (ls : Array Slot), (a2 = aw) → (lv_has ls 10 [(9, .int (iI (aw))), (8, .int (iI (i))), (7, .int (iI (r))), (6, .int (iI (ow))), (5, .int (iI (g (192 + 5 * kk) - 1))), (4, .int (iI (pk g kk * 48 + tt))), (3, .int (iI (g (189 + 5 * kk)))), (0, .ref (q 28)), (1, .int (iI (kk))), (2, .int (iI (tt)))]) → W p l e (rmN 2 43) s m ([.ref (q 28), .int (iI (kk)), .int (iI (tt))] : List Value).toArray below meth c s.heap [] 0 0 Q (F0 m 123 ls [.int (iI (a2)), .int (iI (cvc g i)), .int (iI (g (4 + i)))]) := by
                        intro a2 ls hW2 hl
                        refine j_iadd hx hb dX3_lossAt_123 ?_
                        refine j_icmp_lt (tgt := 130) hx hb dX3_lossAt_124 rfl ⟨by omega, by omega⟩ ⟨by omega, by omega⟩ (fun c124 => ?_) (fun c124 => ?_)
                        · skip
                          refine j_iinc (k := 1) (lv' := [(8, .int (iI (i + 1))), (9, .int (iI (aw))), (7, .int (iI (r))), (6, .int (iI (ow))), (5, .int (iI (g (192 + 5 * kk) - 1))), (4, .int (iI (pk g kk * 48 + tt))), (3, .int (iI (g (189 + 5 * kk)))), (0, .ref (q 28)), (1, .int (iI (kk))), (2, .int (iI (tt)))]) hx hb dX3_lossAt_130 hl rfl (by decide) rfl (fun ls hl => ?_)
                          refine lv_goto (tgt := 58) hx hb dX3_lossAt_133 rfl ?_
                          exact ih58 (i + 1) r ls (by omega) (by rw [sm_at (a := (pk g kk * 48 + tt)) h1.1, ← h2]; unfold llo; first | (rw [bI_t (by omega)]; done) | (rw [bI_f (by omega)]; omega; done)) (by omega) (lv_sub hl [0, 2, 3, 4, 5, 6, 7, 8, 9] rfl)
                        · skip
                          refine j_iinc (k := 2) (lv' := [(7, .int (iI (r + 1))), (9, .int (iI (aw))), (8, .int (iI (i))), (6, .int (iI (ow))), (5, .int (iI (g (192 + 5 * kk) - 1))), (4, .int (iI (pk g kk * 48 + tt))), (3, .int (iI (g (189 + 5 * kk)))), (0, .ref (q 28)), (1, .int (iI (kk))), (2, .int (iI (tt)))]) hx hb dX3_lossAt_127 hl rfl (by decide) rfl (fun ls hl => ?_)
                          refine j_iinc (k := 2) (lv' := [(8, .int (iI (i + 1))), (7, .int (iI (r + 1))), (9, .int (iI (aw))), (6, .int (iI (ow))), (5, .int (iI (g (192 + 5 * kk) - 1))), (4, .int (iI (pk g kk * 48 + tt))), (3, .int (iI (g (189 + 5 * kk)))), (0, .ref (q 28)), (1, .int (iI (kk))), (2, .int (iI (tt)))]) hx hb dX3_lossAt_130 hl rfl (by decide) rfl (fun ls hl => ?_)
                          refine lv_goto (tgt := 58) hx hb dX3_lossAt_133 rfl ?_
                          exact ih58 (i + 1) (r + 1) ls (by omega) (by rw [sm_at (a := (pk g kk * 48 + tt)) h1.1, ← h2]; unfold llo; first | (rw [bI_t (by omega)]; done) | (rw [bI_f (by omega)]; omega; done)) (by omega) (lv_sub hl [0, 1, 3, 4, 5, 6, 7, 8, 9] rfl)
                      exact J123 0 ls (by omega)  (lv_sub hl [0, 1, 2, 3, 4, 5, 6, 7, 8, 9] rfl)
                    · skip
                      refine lv_iconst (v := iI (1)) hx hb dX3_lossAt_118 rfl ?_
                      refine lv_goto (tgt := 123) hx hb dX3_lossAt_119 rfl ?_
                      have J123 : ∀ (a2 : Int) (ls : Array Slot), (a2 = aw) → (lv_has ls 10 [(9, .int (iI (aw))), (8, .int (iI (i))), (7, .int (iI (r))), (6, .int (iI (ow))), (5, .int (iI (g (192 + 5 * kk) - 1))), (4, .int (iI (pk g kk * 48 + tt))), (3, .int (iI (g (189 + 5 * kk)))), (0, .ref (q 28)), (1, .int (iI (kk))), (2, .int (iI (tt)))]) → W p l e (rmN 2 43) s m ([.ref (q 28), .int (iI (kk)), .int (iI (tt))] : List Value).toArray below meth c s.heap [] 0 0 Q (F0 m 123 ls [.int (iI (a2)), .int (iI (cvc g i)), .int (iI (g (4 + i)))]) := by
                        intro a2 ls hW2 hl
                        refine j_iadd hx hb dX3_lossAt_123 ?_
                        refine j_icmp_lt (tgt := 130) hx hb dX3_lossAt_124 rfl ⟨by omega, by omega⟩ ⟨by omega, by omega⟩ (fun c124 => ?_) (fun c124 => ?_)
                        · skip
                          refine j_iinc (k := 1) (lv' := [(8, .int (iI (i + 1))), (9, .int (iI (aw))), (7, .int (iI (r))), (6, .int (iI (ow))), (5, .int (iI (g (192 + 5 * kk) - 1))), (4, .int (iI (pk g kk * 48 + tt))), (3, .int (iI (g (189 + 5 * kk)))), (0, .ref (q 28)), (1, .int (iI (kk))), (2, .int (iI (tt)))]) hx hb dX3_lossAt_130 hl rfl (by decide) rfl (fun ls hl => ?_)
                          refine lv_goto (tgt := 58) hx hb dX3_lossAt_133 rfl ?_
                          exact ih58 (i + 1) r ls (by omega) (by rw [sm_at (a := (pk g kk * 48 + tt)) h1.1, ← h2]; unfold llo; first | (rw [bI_t (by omega)]; done) | (rw [bI_f (by omega)]; omega; done)) (by omega) (lv_sub hl [0, 2, 3, 4, 5, 6, 7, 8, 9] rfl)
                        · skip
                          refine j_iinc (k := 2) (lv' := [(7, .int (iI (r + 1))), (9, .int (iI (aw))), (8, .int (iI (i))), (6, .int (iI (ow))), (5, .int (iI (g (192 + 5 * kk) - 1))), (4, .int (iI (pk g kk * 48 + tt))), (3, .int (iI (g (189 + 5 * kk)))), (0, .ref (q 28)), (1, .int (iI (kk))), (2, .int (iI (tt)))]) hx hb dX3_lossAt_127 hl rfl (by decide) rfl (fun ls hl => ?_)
                          refine j_iinc (k := 2) (lv' := [(8, .int (iI (i + 1))), (7, .int (iI (r + 1))), (9, .int (iI (aw))), (6, .int (iI (ow))), (5, .int (iI (g (192 + 5 * kk) - 1))), (4, .int (iI (pk g kk * 48 + tt))), (3, .int (iI (g (189 + 5 * kk)))), (0, .ref (q 28)), (1, .int (iI (kk))), (2, .int (iI (tt)))]) hx hb dX3_lossAt_130 hl rfl (by decide) rfl (fun ls hl => ?_)
                          refine lv_goto (tgt := 58) hx hb dX3_lossAt_133 rfl ?_
                          exact ih58 (i + 1) (r + 1) ls (by omega) (by rw [sm_at (a := (pk g kk * 48 + tt)) h1.1, ← h2]; unfold llo; first | (rw [bI_t (by omega)]; done) | (rw [bI_f (by omega)]; omega; done)) (by omega) (lv_sub hl [0, 1, 3, 4, 5, 6, 7, 8, 9] rfl)
                      exact J123 1 ls (by omega)  (lv_sub hl [0, 1, 2, 3, 4, 5, 6, 7, 8, 9] rfl)
                  exact J94 0 ls (by first | (rw [cvc_own0 hg hk.1 hk.2 (by omega)]; omega; done) | (have q := cvc_re hg hk.1 hk.2 (by omega) (c := i) (by omega); first | (rw [bI_t (by omega)] at q; omega; done) | (rw [bI_f (by omega)] at q; omega; done); done))  (lv_sub hl [0, 1, 2, 3, 4, 5, 6, 7, 8] rfl)
                · skip
                  refine lv_iconst (v := iI (1)) hx hb dX3_lossAt_89 rfl ?_
                  refine lv_goto (tgt := 94) hx hb dX3_lossAt_90 rfl ?_
                  have J94 : ∀ (aw : Int) (ls : Array Slot), (cvc g i + aw = cvc (lie g kk (-1)) i ∧ 0 ≤ aw ∧ aw ≤ 1) → (lv_has ls 10 [(8, .int (iI (i))), (7, .int (iI (r))), (6, .int (iI (ow))), (5, .int (iI (g (192 + 5 * kk) - 1))), (4, .int (iI (pk g kk * 48 + tt))), (3, .int (iI (g (189 + 5 * kk)))), (0, .ref (q 28)), (1, .int (iI (kk))), (2, .int (iI (tt)))]) → W p l e (rmN 2 43) s m ([.ref (q 28), .int (iI (kk)), .int (iI (tt))] : List Value).toArray below meth c s.heap [] 0 0 Q (F0 m 94 ls [.int (iI (aw))]) := by
                    intro aw ls hW hl
                    refine lv_istore (lv' := [(9, .int (iI (aw))), (8, .int (iI (i))), (7, .int (iI (r))), (6, .int (iI (ow))), (5, .int (iI (g (192 + 5 * kk) - 1))), (4, .int (iI (pk g kk * 48 + tt))), (3, .int (iI (g (189 + 5 * kk)))), (0, .ref (q 28)), (1, .int (iI (kk))), (2, .int (iI (tt)))]) hx hb dX3_lossAt_94 hl (by decide) rfl (fun ls hl => ?_)
                    refine lv_aload_n hx hb dX3_lossAt_96 rfl (lv_at hl 7 rfl) ?_
                    refine va_get (D := D) (ci := 3) (v := .ref (q 16)) (C := RX3) (T := TX3) (N := 4) hx hb hts (by decide +kernel) hown hK hP k28 h28 rfl 0 (by decide) (hts (.fieldLink RX3 9 "BreakSetter$Roster" "plan" "LBreakSetter$Plan;") (by decide +kernel)) (fun _ h9 => h9) rfl dX3_lossAt_97 ?_
                    refine va_get (D := D) (ci := 1) (v := .ref (q 17)) (C := RX1) (T := TX1) (N := 17) hx hb hts (by decide +kernel) hown hK hP k16 h16 rfl 6 (by decide) (hts (.fieldLink RX3 57 "BreakSetter$Plan" "need" "[I") (by decide +kernel)) (fun _ h9 => h9) rfl dX3_lossAt_100 ?_
                    refine lv_iload hx hb dX3_lossAt_103 (lv_at hl 1 rfl) ?_
                    refine j_iald hx hb hK hP k17 1 h17 rfl ⟨by omega, by omega⟩ (Nat.le_of_ble_eq_true rfl) dX3_lossAt_105 ?_
                    refine W_wen (y := iI (g (4 + i))) (congrArg iI (e17 i (by omega) (by omega))) ?_
                    refine lv_aload_n hx hb dX3_lossAt_106 rfl (lv_at hl 7 rfl) ?_
                    refine va_get (D := D) (ci := 3) (v := .ref (q 30)) (C := RX3) (T := TX3) (N := 4) hx hb hts (by decide +kernel) hown hK hP k28 h28 rfl 2 (by decide) (hts (.fieldLink RX3 19 "BreakSetter$Roster" "cover" "[I") (by decide +kernel)) (fun _ h9 => h9) rfl dX3_lossAt_107 ?_
                    refine lv_iload hx hb dX3_lossAt_110 (lv_at hl 1 rfl) ?_
                    refine j_iald hx hb hK hP k30 1 h30 rfl ⟨by omega, by omega⟩ (Nat.le_of_ble_eq_true rfl) dX3_lossAt_112 ?_
                    refine W_wen (y := iI (cvc g i)) (congrArg iI (e30 i (by omega) (by omega))) ?_
                    refine lv_iload hx hb dX3_lossAt_113 (lv_at hl 0 rfl) ?_
                    refine j_if_eq (tgt := 122) hx hb dX3_lossAt_115 rfl ⟨by omega, by omega⟩ (fun c115 => ?_) (fun c115 => ?_)
                    · skip
                      refine lv_iconst (v := iI (0)) hx hb dX3_lossAt_122 rfl ?_
                      have J123 : ∀ (a2 : Int) (ls : Array Slot), (a2 = aw) → (lv_has ls 10 [(9, .int (iI (aw))), (8, .int (iI (i))), (7, .int (iI (r))), (6, .int (iI (ow))), (5, .int (iI (g (192 + 5 * kk) - 1))), (4, .int (iI (pk g kk * 48 + tt))), (3, .int (iI (g (189 + 5 * kk)))), (0, .ref (q 28)), (1, .int (iI (kk))), (2, .int (iI (tt)))]) → W p l e (rmN 2 43) s m ([.ref (q 28), .int (iI (kk)), .int (iI (tt))] : List Value).toArray below meth c s.heap [] 0 0 Q (F0 m 123 ls [.int (iI (a2)), .int (iI (cvc g i)), .int (iI (g (4 + i)))]) := by
                        intro a2 ls hW2 hl
                        refine j_iadd hx hb dX3_lossAt_123 ?_
                        refine j_icmp_lt (tgt := 130) hx hb dX3_lossAt_124 rfl ⟨by omega, by omega⟩ ⟨by omega, by omega⟩ (fun c124 => ?_) (fun c124 => ?_)
                        · skip
                          refine j_iinc (k := 1) (lv' := [(8, .int (iI (i + 1))), (9, .int (iI (aw))), (7, .int (iI (r))), (6, .int (iI (ow))), (5, .int (iI (g (192 + 5 * kk) - 1))), (4, .int (iI (pk g kk * 48 + tt))), (3, .int (iI (g (189 + 5 * kk)))), (0, .ref (q 28)), (1, .int (iI (kk))), (2, .int (iI (tt)))]) hx hb dX3_lossAt_130 hl rfl (by decide) rfl (fun ls hl => ?_)
                          refine lv_goto (tgt := 58) hx hb dX3_lossAt_133 rfl ?_
                          exact ih58 (i + 1) r ls (by omega) (by rw [sm_at (a := (pk g kk * 48 + tt)) h1.1, ← h2]; unfold llo; first | (rw [bI_t (by omega)]; done) | (rw [bI_f (by omega)]; omega; done)) (by omega) (lv_sub hl [0, 2, 3, 4, 5, 6, 7, 8, 9] rfl)
                        · skip
                          refine j_iinc (k := 2) (lv' := [(7, .int (iI (r + 1))), (9, .int (iI (aw))), (8, .int (iI (i))), (6, .int (iI (ow))), (5, .int (iI (g (192 + 5 * kk) - 1))), (4, .int (iI (pk g kk * 48 + tt))), (3, .int (iI (g (189 + 5 * kk)))), (0, .ref (q 28)), (1, .int (iI (kk))), (2, .int (iI (tt)))]) hx hb dX3_lossAt_127 hl rfl (by decide) rfl (fun ls hl => ?_)
                          refine j_iinc (k := 2) (lv' := [(8, .int (iI (i + 1))), (7, .int (iI (r + 1))), (9, .int (iI (aw))), (6, .int (iI (ow))), (5, .int (iI (g (192 + 5 * kk) - 1))), (4, .int (iI (pk g kk * 48 + tt))), (3, .int (iI (g (189 + 5 * kk)))), (0, .ref (q 28)), (1, .int (iI (kk))), (2, .int (iI (tt)))]) hx hb dX3_lossAt_130 hl rfl (by decide) rfl (fun ls hl => ?_)
                          refine lv_goto (tgt := 58) hx hb dX3_lossAt_133 rfl ?_
                          exact ih58 (i + 1) (r + 1) ls (by omega) (by rw [sm_at (a := (pk g kk * 48 + tt)) h1.1, ← h2]; unfold llo; first | (rw [bI_t (by omega)]; done) | (rw [bI_f (by omega)]; omega; done)) (by omega) (lv_sub hl [0, 1, 3, 4, 5, 6, 7, 8, 9] rfl)
                      exact J123 0 ls (by omega)  (lv_sub hl [0, 1, 2, 3, 4, 5, 6, 7, 8, 9] rfl)
                    · skip
                      refine lv_iconst (v := iI (1)) hx hb dX3_lossAt_118 rfl ?_
                      refine lv_goto (tgt := 123) hx hb dX3_lossAt_119 rfl ?_
                      have J123 : ∀ (a2 : Int) (ls : Array Slot), (a2 = aw) → (lv_has ls 10 [(9, .int (iI (aw))), (8, .int (iI (i))), (7, .int (iI (r))), (6, .int (iI (ow))), (5, .int (iI (g (192 + 5 * kk) - 1))), (4, .int (iI (pk g kk * 48 + tt))), (3, .int (iI (g (189 + 5 * kk)))), (0, .ref (q 28)), (1, .int (iI (kk))), (2, .int (iI (tt)))]) → W p l e (rmN 2 43) s m ([.ref (q 28), .int (iI (kk)), .int (iI (tt))] : List Value).toArray below meth c s.heap [] 0 0 Q (F0 m 123 ls [.int (iI (a2)), .int (iI (cvc g i)), .int (iI (g (4 + i)))]) := by
                        intro a2 ls hW2 hl
                        refine j_iadd hx hb dX3_lossAt_123 ?_
                        refine j_icmp_lt (tgt := 130) hx hb dX3_lossAt_124 rfl ⟨by omega, by omega⟩ ⟨by omega, by omega⟩ (fun c124 => ?_) (fun c124 => ?_)
                        · skip
                          refine j_iinc (k := 1) (lv' := [(8, .int (iI (i + 1))), (9, .int (iI (aw))), (7, .int (iI (r))), (6, .int (iI (ow))), (5, .int (iI (g (192 + 5 * kk) - 1))), (4, .int (iI (pk g kk * 48 + tt))), (3, .int (iI (g (189 + 5 * kk)))), (0, .ref (q 28)), (1, .int (iI (kk))), (2, .int (iI (tt)))]) hx hb dX3_lossAt_130 hl rfl (by decide) rfl (fun ls hl => ?_)
                          refine lv_goto (tgt := 58) hx hb dX3_lossAt_133 rfl ?_
                          exact ih58 (i + 1) r ls (by omega) (by rw [sm_at (a := (pk g kk * 48 + tt)) h1.1, ← h2]; unfold llo; first | (rw [bI_t (by omega)]; done) | (rw [bI_f (by omega)]; omega; done)) (by omega) (lv_sub hl [0, 2, 3, 4, 5, 6, 7, 8, 9] rfl)
                        · skip
                          refine j_iinc (k := 2) (lv' := [(7, .int (iI (r + 1))), (9, .int (iI (aw))), (8, .int (iI (i))), (6, .int (iI (ow))), (5, .int (iI (g (192 + 5 * kk) - 1))), (4, .int (iI (pk g kk * 48 + tt))), (3, .int (iI (g (189 + 5 * kk)))), (0, .ref (q 28)), (1, .int (iI (kk))), (2, .int (iI (tt)))]) hx hb dX3_lossAt_127 hl rfl (by decide) rfl (fun ls hl => ?_)
                          refine j_iinc (k := 2) (lv' := [(8, .int (iI (i + 1))), (7, .int (iI (r + 1))), (9, .int (iI (aw))), (6, .int (iI (ow))), (5, .int (iI (g (192 + 5 * kk) - 1))), (4, .int (iI (pk g kk * 48 + tt))), (3, .int (iI (g (189 + 5 * kk)))), (0, .ref (q 28)), (1, .int (iI (kk))), (2, .int (iI (tt)))]) hx hb dX3_lossAt_130 hl rfl (by decide) rfl (fun ls hl => ?_)
                          refine lv_goto (tgt := 58) hx hb dX3_lossAt_133 rfl ?_
                          exact ih58 (i + 1) (r + 1) ls (by omega) (by rw [sm_at (a := (pk g kk * 48 + tt)) h1.1, ← h2]; unfold llo; first | (rw [bI_t (by omega)]; done) | (rw [bI_f (by omega)]; omega; done)) (by omega) (lv_sub hl [0, 1, 3, 4, 5, 6, 7, 8, 9] rfl)
                      exact J123 1 ls (by omega)  (lv_sub hl [0, 1, 2, 3, 4, 5, 6, 7, 8, 9] rfl)
                  exact J94 1 ls (by first | (rw [cvc_own0 hg hk.1 hk.2 (by omega)]; omega; done) | (have q := cvc_re hg hk.1 hk.2 (by omega) (c := i) (by omega); first | (rw [bI_t (by omega)] at q; omega; done) | (rw [bI_f (by omega)] at q; omega; done); done))  (lv_sub hl [0, 1, 2, 3, 4, 5, 6, 7, 8] rfl)
      exact L58 _ (pk g kk * 48 + tt) 0 ls (by omega) (by rw [Int.sub_self]; rfl) (Nat.lt_succ_self _) (lv_sub hl [0, 1, 2, 3, 4, 5, 6, 7, 8] rfl)
    exact J49 (-1) ls (Or.inl ⟨c32, rfl⟩)  (lv_sub hl [0, 1, 2, 3, 4, 5] rfl)

set_option maxHeartbeats 4000000 in
set_option maxRecDepth 100000 in
theorem c_X3_findBestSlot {l : Launch} {D : va_G} {C : Nat → ClassId} {q : Nat → Nat} {w : va_W} {g : Int → Int} (hw : RoW q C w g) (hg : Wf g) {kk : Int} (hk : 0 ≤ kk ∧ kk < g 3) : CR l yX3_findBestSlot wsX3_findBestSlot 3 72 D C [.ref (q 28), .int (iI (kk))] (w) (.int (iI (bestOf g kk))) := by
  obtain ⟨⟨⟨k16, ln, nd, h16⟩, ⟨k17, f17, h17, e17⟩, ⟨k18, f18, h18, e18⟩, ⟨k19, f19, h19, e19⟩, ⟨k20, f20, h20, e20⟩, ⟨k21, f21, h21, e21⟩, ⟨k22, f22, h22, e22⟩, ⟨k23, f23, h23, e23⟩, ⟨k24, f24, h24, e24⟩, ⟨k25, f25, h25, e25⟩, ⟨k26, f26, h26, e26⟩, ⟨k27, f27, h27, e27⟩⟩, ⟨k28, h28⟩, ⟨k29, f29, h29, e29⟩, ⟨k30, f30, h30, e30⟩⟩ := id hw
  refine CR_of (cc := cX3_findBestSlot) (maxL := 6) (by decide) rfl (Nat.le_of_ble_eq_true rfl) ?_
  intro p e s m below meth c Q ls hx hb hml hown hts hK hNW hl hP hret
  have hl : lv_has ls 6 [(0, .ref (q 28)), (1, .int (iI (kk)))] := hl
  have n := Wf_n hg
  have b := Wf_p hg hk.1 hk.2
  have s0 := SF_rng (Wf_lie hg hk.1 hk.2 (t := -1) (Or.inl rfl))
  refine lv_bipush (v := iI (-2)) hx hb dX3_findBestSlot_0 (by decide) ?_
  refine lv_istore_n (lv' := [(2, .int (iI (-2))), (0, .ref (q 28)), (1, .int (iI (kk)))]) hx hb dX3_findBestSlot_2 rfl hl (by decide) rfl (fun ls hl => ?_)
  refine lv_iconst (v := iI (0)) hx hb dX3_findBestSlot_3 rfl ?_
  refine lv_istore_n (lv' := [(3, .int (iI (0))), (2, .int (iI (-2))), (0, .ref (q 28)), (1, .int (iI (kk)))]) hx hb dX3_findBestSlot_4 rfl hl (by decide) rfl (fun ls hl => ?_)
  refine lv_aload_n hx hb dX3_findBestSlot_5 rfl (lv_at hl 2 rfl) ?_
  refine va_get (D := D) (ci := 3) (v := .ref (q 16)) (C := RX3) (T := TX3) (N := 4) hx hb hts (by decide +kernel) hown hK hP k28 h28 rfl 0 (by decide) (hts (.fieldLink RX3 9 "BreakSetter$Roster" "plan" "LBreakSetter$Plan;") (by decide +kernel)) (fun _ h9 => h9) rfl dX3_findBestSlot_6 ?_
  refine va_get (D := D) (ci := 1) (v := .ref (q 26)) (C := RX1) (T := TX1) (N := 17) hx hb hts (by decide +kernel) hown hK hP k16 h16 rfl 15 (by decide) (hts (.fieldLink RX3 79 "BreakSetter$Plan" "pauseEarly" "[I") (by decide +kernel)) (fun _ h9 => h9) rfl dX3_findBestSlot_9 ?_
  refine lv_iload_n hx hb dX3_findBestSlot_12 rfl (lv_at hl 3 rfl) ?_
  refine j_iald hx hb hK hP k26 1 h26 rfl ⟨by omega, by omega⟩ (Nat.le_of_ble_eq_true rfl) dX3_findBestSlot_13 ?_
  refine W_wen (y := iI (g (190 + 5 * kk))) (congrArg iI (e26 kk (by omega) (by omega))) ?_
  refine lv_istore (lv' := [(4, .int (iI (g (190 + 5 * kk)))), (3, .int (iI (0))), (2, .int (iI (-2))), (0, .ref (q 28)), (1, .int (iI (kk)))]) hx hb dX3_findBestSlot_14 hl (by decide) rfl (fun ls hl => ?_)
  have L16 : ∀ (n : Nat) (t : Int) (bb : Int) (ll : Int) (ls : Array Slot), (g (190 + 5 * kk) ≤ t ∧ t ≤ g (191 + 5 * kk) + 1) → (bb = (bst g kk (t - g (190 + 5 * kk)).toNat).1) → (bb = -2 ∧ ll = 0 ∨ ll = (bst g kk (t - g (190 + 5 * kk)).toNat).2 - SF (lie g kk (-1))) → ((g (191 + 5 * kk) + 1 - t).toNat < n) → (lv_has ls 6 [(4, .int (iI (t))), (3, .int (iI (ll))), (2, .int (iI (bb))), (0, .ref (q 28)), (1, .int (iI (kk)))]) → W p l e (rmN 3 72) s m ([.ref (q 28), .int (iI (kk))] : List Value).toArray below meth c s.heap [] 0 0 Q (F0 m 16 ls []) := by
    intro n
    induction n with
    | zero => intro t bb ll ls h1 h2 h3 hn; exact absurd hn (Nat.not_lt_zero _)
    | succ n ih16 =>
      intro t bb ll ls h1 h2 h3 hn hl
      have hn16 := hn
      have rr := bst_rng hg hk.1 hk.2 (t - g (190 + 5 * kk)).toNat (by omega)
      rw [← h2] at rr
      refine lv_iload hx hb dX3_findBestSlot_16 (lv_at hl 0 rfl) ?_
      refine lv_aload_n hx hb dX3_findBestSlot_18 rfl (lv_at hl 3 rfl) ?_
      refine va_get (D := D) (ci := 3) (v := .ref (q 16)) (C := RX3) (T := TX3) (N := 4) hx hb hts (by decide +kernel) hown hK hP k28 h28 rfl 0 (by decide) (hts (.fieldLink RX3 9 "BreakSetter$Roster" "plan" "LBreakSetter$Plan;") (by decide +kernel)) (fun _ h9 => h9) rfl dX3_findBestSlot_19 ?_
      refine va_get (D := D) (ci := 1) (v := .ref (q 27)) (C := RX1) (T := TX1) (N := 17) hx hb hts (by decide +kernel) hown hK hP k16 h16 rfl 16 (by decide) (hts (.fieldLink RX3 82 "BreakSetter$Plan" "pauseLate" "[I") (by decide +kernel)) (fun _ h9 => h9) rfl dX3_findBestSlot_22 ?_
      refine lv_iload_n hx hb dX3_findBestSlot_25 rfl (lv_at hl 4 rfl) ?_
      refine j_iald hx hb hK hP k27 1 h27 rfl ⟨by omega, by omega⟩ (Nat.le_of_ble_eq_true rfl) dX3_findBestSlot_26 ?_
      refine W_wen (y := iI (g (191 + 5 * kk))) (congrArg iI (e27 kk (by omega) (by omega))) ?_
      refine j_icmp_gt (tgt := 73) hx hb dX3_findBestSlot_27 rfl ⟨by omega, by omega⟩ ⟨by omega, by omega⟩ (fun c27 => ?_) (fun c27 => ?_)
      · skip
        refine lv_iload_n hx hb dX3_findBestSlot_73 rfl (lv_at hl 2 rfl) ?_
        exact hret ls 74 _ dX3_findBestSlot_74 (by rw [h2, show t = g (191 + 5 * kk) + 1 by omega]; rfl)
      · skip
        have yy := wy_rng g kk t
        refine lv_aload_n hx hb dX3_findBestSlot_30 rfl (lv_at hl 3 rfl) ?_
        refine lv_iload_n hx hb dX3_findBestSlot_31 rfl (lv_at hl 4 rfl) ?_
        refine lv_iload hx hb dX3_findBestSlot_32 (lv_at hl 0 rfl) ?_
        refine CR_callV (As := [.int (iI (kk)), .int (iI (t))]) (rest := []) ⟨hx, hb, hml, hown, hts⟩ (c_X3_reasonAgainst hw hg (by omega) (by omega)) (cwV 2 hts gX3_findBestSlot_X3_reasonAgainst rfl rfl rfl (by decide +kernel) ⟨Nat.le_of_ble_eq_true rfl, Nat.le_of_ble_eq_true rfl⟩) (q0 := k28) h28 rfl rfl hK hNW hP rfl hl.1 rfl (Nat.le_of_ble_eq_true rfl) dX3_findBestSlot_34 ⟨Nat.zero_le _, Nat.zero_le _⟩ ?_
        refine j_if_ne (tgt := 67) hx hb dX3_findBestSlot_37 rfl ⟨by omega, by omega⟩ (fun c37 => ?_) (fun c37 => ?_)
        · skip
          refine j_iinc (k := 0) (lv' := [(4, .int (iI (t + 1))), (3, .int (iI (ll))), (2, .int (iI (bb))), (0, .ref (q 28)), (1, .int (iI (kk)))]) hx hb dX3_findBestSlot_67 hl rfl (by decide) rfl (fun ls hl => ?_)
          refine lv_goto (tgt := 16) hx hb dX3_findBestSlot_70 rfl ?_
          exact ih16 (t + 1) bb ll ls (by omega) (by rw [bst_s h1.1]; unfold bstep; first | (rw [if_pos (by omega)]; exact h2; done) | (rw [if_neg (by omega), if_neg (by omega)]; done) | (rw [if_neg (by omega), if_pos (by omega)]; exact h2; done)) (by rw [bst_s h1.1]; unfold bstep; first | (rw [if_pos (by omega)]; exact h3; done) | (rw [if_neg (by omega), if_neg (by omega)]; exact Or.inr rfl; done) | (rw [if_neg (by omega), if_pos (by omega)]; exact h3; done)) (by omega) (lv_sub hl [0, 1, 2, 3, 4] rfl)
        · skip
          have ss := SF_rng (Wf_lie hg hk.1 hk.2 (t := t) (Or.inr ⟨by omega, by omega⟩))
          refine lv_aload_n hx hb dX3_findBestSlot_40 rfl (lv_at hl 3 rfl) ?_
          refine lv_iload_n hx hb dX3_findBestSlot_41 rfl (lv_at hl 4 rfl) ?_
          refine lv_iload hx hb dX3_findBestSlot_42 (lv_at hl 0 rfl) ?_
          refine CR_callV (As := [.int (iI (kk)), .int (iI (t))]) (rest := []) ⟨hx, hb, hml, hown, hts⟩ (c_X3_lossAt hw hg (by omega) ⟨by omega, by omega⟩) (cwV 2 hts gX3_findBestSlot_X3_lossAt rfl rfl rfl (by decide +kernel) ⟨Nat.le_of_ble_eq_true rfl, Nat.le_of_ble_eq_true rfl⟩) (q0 := k28) h28 rfl rfl hK hNW hP rfl hl.1 rfl (Nat.le_of_ble_eq_true rfl) dX3_findBestSlot_44 ⟨Nat.zero_le _, Nat.zero_le _⟩ ?_
          refine lv_istore (lv' := [(5, .int (iI (SF (lie g kk t) - SF (lie g kk (-1))))), (4, .int (iI (t))), (3, .int (iI (ll))), (2, .int (iI (bb))), (0, .ref (q 28)), (1, .int (iI (kk)))]) hx hb dX3_findBestSlot_47 hl (by decide) rfl (fun ls hl => ?_)
          refine lv_iload_n hx hb dX3_findBestSlot_49 rfl (lv_at hl 3 rfl) ?_
          refine lv_bipush (v := iI (-2)) hx hb dX3_findBestSlot_50 (by decide) ?_
          refine j_icmp_eq (tgt := 61) hx hb dX3_findBestSlot_52 rfl ⟨by omega, by omega⟩ ⟨by decide, by decide⟩ (fun c52 => ?_) (fun c52 => ?_)
          · skip
            refine lv_iload hx hb dX3_findBestSlot_61 (lv_at hl 1 rfl) ?_
            refine lv_istore_n (lv' := [(2, .int (iI (t))), (5, .int (iI (SF (lie g kk t) - SF (lie g kk (-1))))), (4, .int (iI (t))), (3, .int (iI (ll))), (0, .ref (q 28)), (1, .int (iI (kk)))]) hx hb dX3_findBestSlot_63 rfl hl (by decide) rfl (fun ls hl => ?_)
            refine lv_iload hx hb dX3_findBestSlot_64 (lv_at hl 1 rfl) ?_
            refine lv_istore_n (lv' := [(3, .int (iI (SF (lie g kk t) - SF (lie g kk (-1))))), (2, .int (iI (t))), (5, .int (iI (SF (lie g kk t) - SF (lie g kk (-1))))), (4, .int (iI (t))), (0, .ref (q 28)), (1, .int (iI (kk)))]) hx hb dX3_findBestSlot_66 rfl hl (by decide) rfl (fun ls hl => ?_)
            refine j_iinc (k := 3) (lv' := [(4, .int (iI (t + 1))), (3, .int (iI (SF (lie g kk t) - SF (lie g kk (-1))))), (2, .int (iI (t))), (5, .int (iI (SF (lie g kk t) - SF (lie g kk (-1))))), (0, .ref (q 28)), (1, .int (iI (kk)))]) hx hb dX3_findBestSlot_67 hl rfl (by decide) rfl (fun ls hl => ?_)
            refine lv_goto (tgt := 16) hx hb dX3_findBestSlot_70 rfl ?_
            exact ih16 (t + 1) t (SF (lie g kk t) - SF (lie g kk (-1))) ls (by omega) (by rw [bst_s h1.1]; unfold bstep; first | (rw [if_pos (by omega)]; exact h2; done) | (rw [if_neg (by omega), if_neg (by omega)]; done) | (rw [if_neg (by omega), if_pos (by omega)]; exact h2; done)) (by rw [bst_s h1.1]; unfold bstep; first | (rw [if_pos (by omega)]; exact h3; done) | (rw [if_neg (by omega), if_neg (by omega)]; exact Or.inr rfl; done) | (rw [if_neg (by omega), if_pos (by omega)]; exact h3; done)) (by omega) (lv_sub hl [0, 1, 2, 4, 5] rfl)
          · skip
            refine lv_iload hx hb dX3_findBestSlot_55 (lv_at hl 0 rfl) ?_
            refine lv_iload_n hx hb dX3_findBestSlot_57 rfl (lv_at hl 2 rfl) ?_
            refine j_icmp_ge (tgt := 67) hx hb dX3_findBestSlot_58 rfl ⟨by omega, by omega⟩ ⟨by omega, by omega⟩ (fun c58 => ?_) (fun c58 => ?_)
            · skip
              refine j_iinc (k := 1) (lv' := [(4, .int (iI (t + 1))), (5, .int (iI (SF (lie g kk t) - SF (lie g kk (-1))))), (3, .int (iI (ll))), (2, .int (iI (bb))), (0, .ref (q 28)), (1, .int (iI (kk)))]) hx hb dX3_findBestSlot_67 hl rfl (by decide) rfl (fun ls hl => ?_)
              refine lv_goto (tgt := 16) hx hb dX3_findBestSlot_70 rfl ?_
              exact ih16 (t + 1) bb ll ls (by omega) (by rw [bst_s h1.1]; unfold bstep; first | (rw [if_pos (by omega)]; exact h2; done) | (rw [if_neg (by omega), if_neg (by omega)]; done) | (rw [if_neg (by omega), if_pos (by omega)]; exact h2; done)) (by rw [bst_s h1.1]; unfold bstep; first | (rw [if_pos (by omega)]; exact h3; done) | (rw [if_neg (by omega), if_neg (by omega)]; exact Or.inr rfl; done) | (rw [if_neg (by omega), if_pos (by omega)]; exact h3; done)) (by omega) (lv_sub hl [0, 2, 3, 4, 5] rfl)
            · skip
              refine lv_iload hx hb dX3_findBestSlot_61 (lv_at hl 1 rfl) ?_
              refine lv_istore_n (lv' := [(2, .int (iI (t))), (5, .int (iI (SF (lie g kk t) - SF (lie g kk (-1))))), (4, .int (iI (t))), (3, .int (iI (ll))), (0, .ref (q 28)), (1, .int (iI (kk)))]) hx hb dX3_findBestSlot_63 rfl hl (by decide) rfl (fun ls hl => ?_)
              refine lv_iload hx hb dX3_findBestSlot_64 (lv_at hl 1 rfl) ?_
              refine lv_istore_n (lv' := [(3, .int (iI (SF (lie g kk t) - SF (lie g kk (-1))))), (2, .int (iI (t))), (5, .int (iI (SF (lie g kk t) - SF (lie g kk (-1))))), (4, .int (iI (t))), (0, .ref (q 28)), (1, .int (iI (kk)))]) hx hb dX3_findBestSlot_66 rfl hl (by decide) rfl (fun ls hl => ?_)
              refine j_iinc (k := 3) (lv' := [(4, .int (iI (t + 1))), (3, .int (iI (SF (lie g kk t) - SF (lie g kk (-1))))), (2, .int (iI (t))), (5, .int (iI (SF (lie g kk t) - SF (lie g kk (-1))))), (0, .ref (q 28)), (1, .int (iI (kk)))]) hx hb dX3_findBestSlot_67 hl rfl (by decide) rfl (fun ls hl => ?_)
              refine lv_goto (tgt := 16) hx hb dX3_findBestSlot_70 rfl ?_
              exact ih16 (t + 1) t (SF (lie g kk t) - SF (lie g kk (-1))) ls (by omega) (by rw [bst_s h1.1]; unfold bstep; first | (rw [if_pos (by omega)]; exact h2; done) | (rw [if_neg (by omega), if_neg (by omega)]; done) | (rw [if_neg (by omega), if_pos (by omega)]; exact h2; done)) (by rw [bst_s h1.1]; unfold bstep; first | (rw [if_pos (by omega)]; exact h3; done) | (rw [if_neg (by omega), if_neg (by omega)]; exact Or.inr rfl; done) | (rw [if_neg (by omega), if_pos (by omega)]; exact h3; done)) (by omega) (lv_sub hl [0, 1, 2, 4, 5] rfl)
  exact L16 _ (g (190 + 5 * kk)) (-2) 0 ls (by omega) (by rw [Int.sub_self]; rfl) (Or.inl ⟨rfl, rfl⟩) (Nat.lt_succ_self _) (lv_sub hl [0, 1, 2, 3, 4] rfl)

set_option maxHeartbeats 4000000 in
set_option maxRecDepth 100000 in
theorem c_X3_findBestMove {l : Launch} {D : va_G} {C : Nat → ClassId} {q : Nat → Nat} {w : va_W} {g : Int → Int} (hw : RoW q C w g) (hg : Wf g)  : CR l yX3_findBestMove wsX3_findBestMove 4 97 D C [.ref (q 28)] (w) (.int (iI (betterOf g))) := by
  obtain ⟨⟨⟨k16, ln, nd, h16⟩, ⟨k17, f17, h17, e17⟩, ⟨k18, f18, h18, e18⟩, ⟨k19, f19, h19, e19⟩, ⟨k20, f20, h20, e20⟩, ⟨k21, f21, h21, e21⟩, ⟨k22, f22, h22, e22⟩, ⟨k23, f23, h23, e23⟩, ⟨k24, f24, h24, e24⟩, ⟨k25, f25, h25, e25⟩, ⟨k26, f26, h26, e26⟩, ⟨k27, f27, h27, e27⟩⟩, ⟨k28, h28⟩, ⟨k29, f29, h29, e29⟩, ⟨k30, f30, h30, e30⟩⟩ := id hw
  refine CR_of (cc := cX3_findBestMove) (maxL := 6) (by decide) rfl (Nat.le_of_ble_eq_true rfl) ?_
  intro p e s m below meth c Q ls hx hb hml hown hts hK hNW hl hP hret
  have hl : lv_has ls 6 [(0, .ref (q 28))] := hl
  have n := Wf_n hg
  have sf := SF_rng hg
  refine lv_bipush (v := iI (-2)) hx hb dX3_findBestMove_0 (by decide) ?_
  refine lv_istore_n (lv' := [(1, .int (iI (-2))), (0, .ref (q 28))]) hx hb dX3_findBestMove_2 rfl hl (by decide) rfl (fun ls hl => ?_)
  refine lv_aload_n hx hb dX3_findBestMove_3 rfl (lv_at hl 1 rfl) ?_
  refine va_get (D := D) (ci := 3) (v := .int (iI (SF g))) (C := RX3) (T := TX3) (N := 4) hx hb hts (by decide +kernel) hown hK hP k28 h28 rfl 3 (by decide) (hts (.fieldLink RX3 42 "BreakSetter$Roster" "shortfall" "I") (by decide +kernel)) (fun _ h9 => h9) rfl dX3_findBestMove_4 ?_
  refine lv_istore_n (lv' := [(2, .int (iI (SF g))), (1, .int (iI (-2))), (0, .ref (q 28))]) hx hb dX3_findBestMove_7 rfl hl (by decide) rfl (fun ls hl => ?_)
  refine lv_iconst (v := iI (0)) hx hb dX3_findBestMove_8 rfl ?_
  refine lv_istore_n (lv' := [(3, .int (iI (0))), (2, .int (iI (SF g))), (1, .int (iI (-2))), (0, .ref (q 28))]) hx hb dX3_findBestMove_9 rfl hl (by decide) rfl (fun ls hl => ?_)
  have L10 : ∀ (n : Nat) (k : Int) (bb : Int) (ll : Int) (ls : Array Slot), (0 ≤ k ∧ k ≤ g 3) → (bb = (btk g k.toNat).1) → (ll = (btk g k.toNat).2) → ((g 3 - k).toNat < n) → (lv_has ls 6 [(3, .int (iI (k))), (2, .int (iI (ll))), (1, .int (iI (bb))), (0, .ref (q 28))]) → W p l e (rmN 4 97) s m ([.ref (q 28)] : List Value).toArray below meth c s.heap [] 0 0 Q (F0 m 10 ls []) := by
    intro n
    induction n with
    | zero => intro k bb ll ls h1 h2 h3 hn; exact absurd hn (Nat.not_lt_zero _)
    | succ n ih10 =>
      intro k bb ll ls h1 h2 h3 hn hl
      have hn10 := hn
      have ok := btk_ok hg k.toNat (by omega)
      have le := btk_le hg k.toNat (by omega)
      have okr := ok.1
      rw [← h3] at le okr
      refine lv_iload_n hx hb dX3_findBestMove_10 rfl (lv_at hl 0 rfl) ?_
      refine lv_aload_n hx hb dX3_findBestMove_11 rfl (lv_at hl 3 rfl) ?_
      refine va_get (D := D) (ci := 3) (v := .ref (q 16)) (C := RX3) (T := TX3) (N := 4) hx hb hts (by decide +kernel) hown hK hP k28 h28 rfl 0 (by decide) (hts (.fieldLink RX3 9 "BreakSetter$Roster" "plan" "LBreakSetter$Plan;") (by decide +kernel)) (fun _ h9 => h9) rfl dX3_findBestMove_12 ?_
      refine va_get (D := D) (ci := 1) (v := .int (iI (g 3))) (C := RX1) (T := TX1) (N := 17) hx hb hts (by decide +kernel) hown hK hP k16 h16 rfl 5 (by decide) (hts (.fieldLink RX3 50 "BreakSetter$Plan" "pauses" "I") (by decide +kernel)) (fun _ h9 => h9) rfl dX3_findBestMove_15 ?_
      refine j_icmp_ge (tgt := 88) hx hb dX3_findBestMove_18 rfl ⟨by omega, by omega⟩ ⟨by omega, by omega⟩ (fun c18 => ?_) (fun c18 => ?_)
      · skip
        refine lv_iload_n hx hb dX3_findBestMove_88 rfl (lv_at hl 2 rfl) ?_
        exact hret ls 89 _ dX3_findBestMove_89 (by rw [h2, show k = g 3 by omega]; rfl)
      · skip
        have b := Wf_p hg (k := k) (by omega) (by omega)
        refine lv_aload_n hx hb dX3_findBestMove_21 rfl (lv_at hl 3 rfl) ?_
        refine va_get (D := D) (ci := 3) (v := .ref (q 29)) (C := RX3) (T := TX3) (N := 4) hx hb hts (by decide +kernel) hown hK hP k28 h28 rfl 1 (by decide) (hts (.fieldLink RX3 15 "BreakSetter$Roster" "places" "[I") (by decide +kernel)) (fun _ h9 => h9) rfl dX3_findBestMove_22 ?_
        refine lv_iload_n hx hb dX3_findBestMove_25 rfl (lv_at hl 0 rfl) ?_
        refine j_iald hx hb hK hP k29 1 h29 rfl ⟨by omega, by omega⟩ (Nat.le_of_ble_eq_true rfl) dX3_findBestMove_26 ?_
        refine W_wen (y := iI (g (192 + 5 * k) - 1)) (congrArg iI (e29 k (by omega) (by omega))) ?_
        refine lv_iconst (v := iI (-1)) hx hb dX3_findBestMove_27 rfl ?_
        refine j_icmp_ne (tgt := 36) hx hb dX3_findBestMove_28 rfl ⟨by omega, by omega⟩ ⟨by decide, by decide⟩ (fun c28 => ?_) (fun c28 => ?_)
        · skip
          have rb := bestOf_rng hg (k := k) (by omega) (by omega)
          refine lv_aload_n hx hb dX3_findBestMove_36 rfl (lv_at hl 3 rfl) ?_
          refine lv_iload_n hx hb dX3_findBestMove_37 rfl (lv_at hl 0 rfl) ?_
          refine CR_callV (As := [.int (iI (k))]) (rest := []) ⟨hx, hb, hml, hown, hts⟩ (c_X3_findBestSlot hw hg ⟨by omega, by omega⟩) (cwV 1 hts gX3_findBestMove_X3_findBestSlot rfl rfl rfl (by decide +kernel) ⟨Nat.le_of_ble_eq_true rfl, Nat.le_of_ble_eq_true rfl⟩) (q0 := k28) h28 rfl rfl hK hNW hP rfl hl.1 rfl (Nat.le_of_ble_eq_true rfl) dX3_findBestMove_38 ⟨Nat.zero_le _, Nat.zero_le _⟩ ?_
          refine lv_istore (lv' := [(4, .int (iI (bestOf g k))), (3, .int (iI (k))), (2, .int (iI (ll))), (1, .int (iI (bb))), (0, .ref (q 28))]) hx hb dX3_findBestMove_41 hl (by decide) rfl (fun ls hl => ?_)
          refine lv_iload hx hb dX3_findBestMove_43 (lv_at hl 0 rfl) ?_
          refine lv_bipush (v := iI (-2)) hx hb dX3_findBestMove_45 (by decide) ?_
          refine j_icmp_eq (tgt := 82) hx hb dX3_findBestMove_47 rfl ⟨by omega, by omega⟩ ⟨by decide, by decide⟩ (fun c47 => ?_) (fun c47 => ?_)
          · skip
            refine j_iinc (k := 1) (lv' := [(3, .int (iI (k + 1))), (4, .int (iI (bestOf g k))), (2, .int (iI (ll))), (1, .int (iI (bb))), (0, .ref (q 28))]) hx hb dX3_findBestMove_82 hl rfl (by decide) rfl (fun ls hl => ?_)
            refine lv_goto (tgt := 10) hx hb dX3_findBestMove_85 rfl ?_
            exact ih10 (k + 1) bb ll ls (by omega) (by rw [btk_s h1.1, btn_best hg h1.1 (by omega) (by rw [← h3]; exact le), ← h3]; first | (rw [if_neg (fun q => q.1 c28)]; exact h2; done) | (rw [if_neg (fun q => q.2.1 c47)]; exact h2; done) | (rw [if_neg (by omega)]; exact h2; done) | (rw [if_pos ⟨c28, c47, by omega⟩]; show _ = _; omega; done)) (by rw [btk_s h1.1, btn_best hg h1.1 (by omega) (by rw [← h3]; exact le), ← h3]; first | (rw [if_neg (fun q => q.1 c28)]; exact h3; done) | (rw [if_neg (fun q => q.2.1 c47)]; exact h3; done) | (rw [if_neg (by omega)]; exact h3; done) | (rw [if_pos ⟨c28, c47, by omega⟩]; show _ = _; omega; done)) (by omega) (lv_sub hl [0, 2, 3, 4] rfl)
          · skip
            have ss := SF_rng (Wf_lie hg (k := k) (t := bestOf g k) (by omega) (by omega) (Or.inr ⟨by omega, by omega⟩))
            refine lv_aload_n hx hb dX3_findBestMove_50 rfl (lv_at hl 4 rfl) ?_
            refine lv_iload_n hx hb dX3_findBestMove_51 rfl (lv_at hl 1 rfl) ?_
            refine CR_callV (As := [.int (iI (k))]) (rest := []) ⟨hx, hb, hml, hown, hts⟩ (c_X3_shortfallWithout hw hg ⟨by omega, by omega⟩) (cwV 1 hts gX3_findBestMove_X3_shortfallWithout rfl rfl rfl (by decide +kernel) ⟨Nat.le_of_ble_eq_true rfl, Nat.le_of_ble_eq_true rfl⟩) (q0 := k28) h28 rfl rfl hK hNW hP rfl hl.1 rfl (Nat.le_of_ble_eq_true rfl) dX3_findBestMove_52 ⟨Nat.zero_le _, Nat.zero_le _⟩ ?_
            refine lv_aload_n hx hb dX3_findBestMove_55 rfl (lv_at hl 4 rfl) ?_
            refine lv_iload_n hx hb dX3_findBestMove_56 rfl (lv_at hl 1 rfl) ?_
            refine lv_iload hx hb dX3_findBestMove_57 (lv_at hl 0 rfl) ?_
            refine CR_callV (As := [.int (iI (k)), .int (iI (bestOf g k))]) (rest := [.int (iI (SF (lie g k (-1))))]) ⟨hx, hb, hml, hown, hts⟩ (c_X3_lossAt hw hg ⟨by omega, by omega⟩ ⟨by omega, by omega⟩) (cwV 2 hts gX3_findBestMove_X3_lossAt rfl rfl rfl (by decide +kernel) ⟨Nat.le_of_ble_eq_true rfl, Nat.le_of_ble_eq_true rfl⟩) (q0 := k28) h28 rfl rfl hK hNW hP rfl hl.1 rfl (Nat.le_of_ble_eq_true rfl) dX3_findBestMove_59 ⟨Nat.zero_le _, Nat.zero_le _⟩ ?_
            refine j_iadd hx hb dX3_findBestMove_62 ?_
            refine lv_istore (lv' := [(5, .int (iI ((SF (lie g k (-1))) + (SF (lie g k (bestOf g k)) - SF (lie g k (-1)))))), (4, .int (iI (bestOf g k))), (3, .int (iI (k))), (2, .int (iI (ll))), (1, .int (iI (bb))), (0, .ref (q 28))]) hx hb dX3_findBestMove_63 hl (by decide) rfl (fun ls hl => ?_)
            refine lv_iload hx hb dX3_findBestMove_65 (lv_at hl 0 rfl) ?_
            refine lv_iload_n hx hb dX3_findBestMove_67 rfl (lv_at hl 3 rfl) ?_
            refine j_icmp_ge (tgt := 82) hx hb dX3_findBestMove_68 rfl ⟨by omega, by omega⟩ ⟨by omega, by omega⟩ (fun c68 => ?_) (fun c68 => ?_)
            · skip
              refine j_iinc (k := 2) (lv' := [(3, .int (iI (k + 1))), (5, .int (iI ((SF (lie g k (-1))) + (SF (lie g k (bestOf g k)) - SF (lie g k (-1)))))), (4, .int (iI (bestOf g k))), (2, .int (iI (ll))), (1, .int (iI (bb))), (0, .ref (q 28))]) hx hb dX3_findBestMove_82 hl rfl (by decide) rfl (fun ls hl => ?_)
              refine lv_goto (tgt := 10) hx hb dX3_findBestMove_85 rfl ?_
              exact ih10 (k + 1) bb ll ls (by omega) (by rw [btk_s h1.1, btn_best hg h1.1 (by omega) (by rw [← h3]; exact le), ← h3]; first | (rw [if_neg (fun q => q.1 c28)]; exact h2; done) | (rw [if_neg (fun q => q.2.1 c47)]; exact h2; done) | (rw [if_neg (by omega)]; exact h2; done) | (rw [if_pos ⟨c28, c47, by omega⟩]; show _ = _; omega; done)) (by rw [btk_s h1.1, btn_best hg h1.1 (by omega) (by rw [← h3]; exact le), ← h3]; first | (rw [if_neg (fun q => q.1 c28)]; exact h3; done) | (rw [if_neg (fun q => q.2.1 c47)]; exact h3; done) | (rw [if_neg (by omega)]; exact h3; done) | (rw [if_pos ⟨c28, c47, by omega⟩]; show _ = _; omega; done)) (by omega) (lv_sub hl [0, 3, 4, 5] rfl)
            · skip
              refine lv_iload_n hx hb dX3_findBestMove_71 rfl (lv_at hl 2 rfl) ?_
              refine lv_bipush (v := iI (100)) hx hb dX3_findBestMove_72 (by decide) ?_
              refine j_imul hx hb dX3_findBestMove_74 ?_
              refine lv_iload hx hb dX3_findBestMove_75 (lv_at hl 1 rfl) ?_
              refine j_iadd hx hb dX3_findBestMove_77 ?_
              refine lv_istore_n (lv' := [(1, .int (iI ((k * 100) + (bestOf g k)))), (5, .int (iI ((SF (lie g k (-1))) + (SF (lie g k (bestOf g k)) - SF (lie g k (-1)))))), (4, .int (iI (bestOf g k))), (3, .int (iI (k))), (2, .int (iI (ll))), (0, .ref (q 28))]) hx hb dX3_findBestMove_78 rfl hl (by decide) rfl (fun ls hl => ?_)
              refine lv_iload hx hb dX3_findBestMove_79 (lv_at hl 1 rfl) ?_
              refine lv_istore_n (lv' := [(2, .int (iI ((SF (lie g k (-1))) + (SF (lie g k (bestOf g k)) - SF (lie g k (-1)))))), (1, .int (iI ((k * 100) + (bestOf g k)))), (5, .int (iI ((SF (lie g k (-1))) + (SF (lie g k (bestOf g k)) - SF (lie g k (-1)))))), (4, .int (iI (bestOf g k))), (3, .int (iI (k))), (0, .ref (q 28))]) hx hb dX3_findBestMove_81 rfl hl (by decide) rfl (fun ls hl => ?_)
              refine j_iinc (k := 4) (lv' := [(3, .int (iI (k + 1))), (2, .int (iI ((SF (lie g k (-1))) + (SF (lie g k (bestOf g k)) - SF (lie g k (-1)))))), (1, .int (iI ((k * 100) + (bestOf g k)))), (5, .int (iI ((SF (lie g k (-1))) + (SF (lie g k (bestOf g k)) - SF (lie g k (-1)))))), (4, .int (iI (bestOf g k))), (0, .ref (q 28))]) hx hb dX3_findBestMove_82 hl rfl (by decide) rfl (fun ls hl => ?_)
              refine lv_goto (tgt := 10) hx hb dX3_findBestMove_85 rfl ?_
              exact ih10 (k + 1) ((k * 100) + (bestOf g k)) ((SF (lie g k (-1))) + (SF (lie g k (bestOf g k)) - SF (lie g k (-1)))) ls (by omega) (by rw [btk_s h1.1, btn_best hg h1.1 (by omega) (by rw [← h3]; exact le), ← h3]; first | (rw [if_neg (fun q => q.1 c28)]; exact h2; done) | (rw [if_neg (fun q => q.2.1 c47)]; exact h2; done) | (rw [if_neg (by omega)]; exact h2; done) | (rw [if_pos ⟨c28, c47, by omega⟩]; show _ = _; omega; done)) (by rw [btk_s h1.1, btn_best hg h1.1 (by omega) (by rw [← h3]; exact le), ← h3]; first | (rw [if_neg (fun q => q.1 c28)]; exact h3; done) | (rw [if_neg (fun q => q.2.1 c47)]; exact h3; done) | (rw [if_neg (by omega)]; exact h3; done) | (rw [if_pos ⟨c28, c47, by omega⟩]; show _ = _; omega; done)) (by omega) (lv_sub hl [0, 1, 2, 5] rfl)
        · skip
          refine lv_bipush (v := iI (-2)) hx hb dX3_findBestMove_31 (by decide) ?_
          refine lv_goto (tgt := 41) hx hb dX3_findBestMove_33 rfl ?_
          refine lv_istore (lv' := [(4, .int (iI (-2))), (3, .int (iI (k))), (2, .int (iI (ll))), (1, .int (iI (bb))), (0, .ref (q 28))]) hx hb dX3_findBestMove_41 hl (by decide) rfl (fun ls hl => ?_)
          refine lv_iload hx hb dX3_findBestMove_43 (lv_at hl 0 rfl) ?_
          refine lv_bipush (v := iI (-2)) hx hb dX3_findBestMove_45 (by decide) ?_
          refine j_icmp_eq (tgt := 82) hx hb dX3_findBestMove_47 rfl ⟨by decide, by decide⟩ ⟨by decide, by decide⟩ (fun c47 => ?_) (fun c47 => ?_)
          · skip
            refine j_iinc (k := 1) (lv' := [(3, .int (iI (k + 1))), (4, .int (iI (-2))), (2, .int (iI (ll))), (1, .int (iI (bb))), (0, .ref (q 28))]) hx hb dX3_findBestMove_82 hl rfl (by decide) rfl (fun ls hl => ?_)
            refine lv_goto (tgt := 10) hx hb dX3_findBestMove_85 rfl ?_
            exact ih10 (k + 1) bb ll ls (by omega) (by rw [btk_s h1.1, btn_best hg h1.1 (by omega) (by rw [← h3]; exact le), ← h3]; first | (rw [if_neg (fun q => q.1 c28)]; exact h2; done) | (rw [if_neg (fun q => q.2.1 c47)]; exact h2; done) | (rw [if_neg (by omega)]; exact h2; done) | (rw [if_pos ⟨c28, c47, by omega⟩]; show _ = _; omega; done)) (by rw [btk_s h1.1, btn_best hg h1.1 (by omega) (by rw [← h3]; exact le), ← h3]; first | (rw [if_neg (fun q => q.1 c28)]; exact h3; done) | (rw [if_neg (fun q => q.2.1 c47)]; exact h3; done) | (rw [if_neg (by omega)]; exact h3; done) | (rw [if_pos ⟨c28, c47, by omega⟩]; show _ = _; omega; done)) (by omega) (lv_sub hl [0, 2, 3, 4] rfl)
          · exact absurd c47 (by decide)
  exact L10 _ 0 (-2) (SF g) ls (by omega) rfl rfl (Nat.lt_succ_self _) (lv_sub hl [0, 1, 2, 3] rfl)

set_option maxHeartbeats 4000000 in
set_option maxRecDepth 100000 in
theorem c_X3_findWorstSlot {l : Launch} {D : va_G} {C : Nat → ClassId} {q : Nat → Nat} {w : va_W} {g : Int → Int} (hw : RoW q C w g) (hg : Wf g)  : CR l yX3_findWorstSlot wsX3_findWorstSlot 2 51 D C [.ref (q 28)] (w) (.int (iI (worstOf g))) := by
  obtain ⟨⟨⟨k16, ln, nd, h16⟩, ⟨k17, f17, h17, e17⟩, ⟨k18, f18, h18, e18⟩, ⟨k19, f19, h19, e19⟩, ⟨k20, f20, h20, e20⟩, ⟨k21, f21, h21, e21⟩, ⟨k22, f22, h22, e22⟩, ⟨k23, f23, h23, e23⟩, ⟨k24, f24, h24, e24⟩, ⟨k25, f25, h25, e25⟩, ⟨k26, f26, h26, e26⟩, ⟨k27, f27, h27, e27⟩⟩, ⟨k28, h28⟩, ⟨k29, f29, h29, e29⟩, ⟨k30, f30, h30, e30⟩⟩ := id hw
  refine CR_of (cc := cX3_findWorstSlot) (maxL := 6) (by decide) rfl (Nat.le_of_ble_eq_true rfl) ?_
  intro p e s m below meth c Q ls hx hb hml hown hts hK hNW hl hP hret
  have hl : lv_has ls 6 [(0, .ref (q 28))] := hl
  have n := Wf_n hg
  refine lv_iconst (v := iI (-1)) hx hb dX3_findWorstSlot_0 rfl ?_
  refine lv_istore_n (lv' := [(1, .int (iI (-1))), (0, .ref (q 28))]) hx hb dX3_findWorstSlot_1 rfl hl (by decide) rfl (fun ls hl => ?_)
  refine lv_iconst (v := iI (0)) hx hb dX3_findWorstSlot_2 rfl ?_
  refine lv_istore_n (lv' := [(2, .int (iI (0))), (1, .int (iI (-1))), (0, .ref (q 28))]) hx hb dX3_findWorstSlot_3 rfl hl (by decide) rfl (fun ls hl => ?_)
  refine lv_iconst (v := iI (0)) hx hb dX3_findWorstSlot_4 rfl ?_
  refine lv_istore_n (lv' := [(3, .int (iI (0))), (2, .int (iI (0))), (1, .int (iI (-1))), (0, .ref (q 28))]) hx hb dX3_findWorstSlot_5 rfl hl (by decide) rfl (fun ls hl => ?_)
  have L6 : ∀ (n : Nat) (t : Int) (bb : Int) (ll : Int) (ls : Array Slot), (0 ≤ t ∧ t ≤ 48) → (bb = (wst g t.toNat).1) → (ll = (wst g t.toNat).2) → ((48 - t).toNat < n) → (lv_has ls 6 [(3, .int (iI (t))), (2, .int (iI (ll))), (1, .int (iI (bb))), (0, .ref (q 28))]) → W p l e (rmN 2 51) s m ([.ref (q 28)] : List Value).toArray below meth c s.heap [] 0 0 Q (F0 m 6 ls []) := by
    intro n
    induction n with
    | zero => intro t bb ll ls h1 h2 h3 hn; exact absurd hn (Nat.not_lt_zero _)
    | succ n ih6 =>
      intro t bb ll ls h1 h2 h3 hn hl
      have hn6 := hn
      have rr := wst_rng hg t.toNat (by omega)
      rw [← h2, ← h3] at rr
      refine lv_iload_n hx hb dX3_findWorstSlot_6 rfl (lv_at hl 0 rfl) ?_
      refine lv_bipush (v := iI (48)) hx hb dX3_findWorstSlot_7 (by decide) ?_
      refine j_icmp_ge (tgt := 68) hx hb dX3_findWorstSlot_9 rfl ⟨by omega, by omega⟩ ⟨by decide, by decide⟩ (fun c9 => ?_) (fun c9 => ?_)
      · skip
        refine lv_iload_n hx hb dX3_findWorstSlot_68 rfl (lv_at hl 2 rfl) ?_
        exact hret ls 69 _ dX3_findWorstSlot_69 (by rw [h2, show t = 48 by omega]; rfl)
      · skip
        refine lv_iconst (v := iI (0)) hx hb dX3_findWorstSlot_12 rfl ?_
        refine lv_istore (lv' := [(4, .int (iI (0))), (3, .int (iI (t))), (2, .int (iI (ll))), (1, .int (iI (bb))), (0, .ref (q 28))]) hx hb dX3_findWorstSlot_13 hl (by decide) rfl (fun ls hl => ?_)
        refine lv_iconst (v := iI (0)) hx hb dX3_findWorstSlot_15 rfl ?_
        refine lv_istore (lv' := [(5, .int (iI (0))), (4, .int (iI (0))), (3, .int (iI (t))), (2, .int (iI (ll))), (1, .int (iI (bb))), (0, .ref (q 28))]) hx hb dX3_findWorstSlot_16 hl (by decide) rfl (fun ls hl => ?_)
        have L18 : ∀ (n : Nat) (i : Int) (r : Int) (ls : Array Slot), (0 ≤ i ∧ i ≤ g 0) → (r = smI (fun p => sh g p t) i) → ((g 0 - i).toNat < n) → (lv_has ls 6 [(5, .int (iI (i))), (4, .int (iI (r))), (3, .int (iI (t))), (2, .int (iI (ll))), (1, .int (iI (bb))), (0, .ref (q 28))]) → W p l e (rmN 2 51) s m ([.ref (q 28)] : List Value).toArray below meth c s.heap [] 0 0 Q (F0 m 18 ls []) := by
          intro n
          induction n with
          | zero => intro i r ls g1 g2 hn; exact absurd hn (Nat.not_lt_zero _)
          | succ n ih18 =>
            intro i r ls g1 g2 hn hl
            have hn18 := hn
            have r1 := shIi_rng hg (t := t) (by omega) (by omega) (i := i) (by omega) (by omega)
            rw [← g2] at r1
            refine lv_iload hx hb dX3_findWorstSlot_18 (lv_at hl 0 rfl) ?_
            refine lv_aload_n hx hb dX3_findWorstSlot_20 rfl (lv_at hl 5 rfl) ?_
            refine va_get (D := D) (ci := 3) (v := .ref (q 16)) (C := RX3) (T := TX3) (N := 4) hx hb hts (by decide +kernel) hown hK hP k28 h28 rfl 0 (by decide) (hts (.fieldLink RX3 9 "BreakSetter$Roster" "plan" "LBreakSetter$Plan;") (by decide +kernel)) (fun _ h9 => h9) rfl dX3_findWorstSlot_21 ?_
            refine va_get (D := D) (ci := 1) (v := .int (iI (g 0))) (C := RX1) (T := TX1) (N := 17) hx hb hts (by decide +kernel) hown hK hP k16 h16 rfl 0 (by decide) (hts (.fieldLink RX3 107 "BreakSetter$Plan" "posts" "I") (by decide +kernel)) (fun _ h9 => h9) rfl dX3_findWorstSlot_24 ?_
            refine j_icmp_ge (tgt := 51) hx hb dX3_findWorstSlot_27 rfl ⟨by omega, by omega⟩ ⟨by omega, by omega⟩ (fun c27 => ?_) (fun c27 => ?_)
            · skip
              have e9 : r = shI g t := by rw [g2, show i = g 0 by omega]; rfl
              refine lv_iload hx hb dX3_findWorstSlot_51 (lv_at hl 1 rfl) ?_
              refine lv_iload_n hx hb dX3_findWorstSlot_53 rfl (lv_at hl 3 rfl) ?_
              refine j_icmp_le (tgt := 62) hx hb dX3_findWorstSlot_54 rfl ⟨by omega, by omega⟩ ⟨by omega, by omega⟩ (fun c54 => ?_) (fun c54 => ?_)
              · skip
                refine j_iinc (k := 2) (lv' := [(3, .int (iI (t + 1))), (5, .int (iI (i))), (4, .int (iI (r))), (2, .int (iI (ll))), (1, .int (iI (bb))), (0, .ref (q 28))]) hx hb dX3_findWorstSlot_62 hl rfl (by decide) rfl (fun ls hl => ?_)
                refine lv_goto (tgt := 6) hx hb dX3_findWorstSlot_65 rfl ?_
                exact ih6 (t + 1) bb ll ls (by omega) (by rw [wst_s h1.1]; first | (rw [if_pos (by omega)]; exact h2; done) | (rw [if_neg (by omega)]; done) | (rw [if_neg (by omega)]; show _ = _; omega; done)) (by rw [wst_s h1.1]; first | (rw [if_pos (by omega)]; exact h3; done) | (rw [if_neg (by omega)]; done) | (rw [if_neg (by omega)]; show _ = _; omega; done)) (by omega) (lv_sub hl [0, 3, 4, 5] rfl)
              · skip
                refine lv_iload_n hx hb dX3_findWorstSlot_57 rfl (lv_at hl 2 rfl) ?_
                refine lv_istore_n (lv' := [(1, .int (iI (t))), (5, .int (iI (i))), (4, .int (iI (r))), (3, .int (iI (t))), (2, .int (iI (ll))), (0, .ref (q 28))]) hx hb dX3_findWorstSlot_58 rfl hl (by decide) rfl (fun ls hl => ?_)
                refine lv_iload hx hb dX3_findWorstSlot_59 (lv_at hl 2 rfl) ?_
                refine lv_istore_n (lv' := [(2, .int (iI (r))), (1, .int (iI (t))), (5, .int (iI (i))), (4, .int (iI (r))), (3, .int (iI (t))), (0, .ref (q 28))]) hx hb dX3_findWorstSlot_61 rfl hl (by decide) rfl (fun ls hl => ?_)
                refine j_iinc (k := 4) (lv' := [(3, .int (iI (t + 1))), (2, .int (iI (r))), (1, .int (iI (t))), (5, .int (iI (i))), (4, .int (iI (r))), (0, .ref (q 28))]) hx hb dX3_findWorstSlot_62 hl rfl (by decide) rfl (fun ls hl => ?_)
                refine lv_goto (tgt := 6) hx hb dX3_findWorstSlot_65 rfl ?_
                exact ih6 (t + 1) t r ls (by omega) (by rw [wst_s h1.1]; first | (rw [if_pos (by omega)]; exact h2; done) | (rw [if_neg (by omega)]; done) | (rw [if_neg (by omega)]; show _ = _; omega; done)) (by rw [wst_s h1.1]; first | (rw [if_pos (by omega)]; exact h3; done) | (rw [if_neg (by omega)]; done) | (rw [if_neg (by omega)]; show _ = _; omega; done)) (by omega) (lv_sub hl [0, 1, 2, 5] rfl)
            · skip
              refine lv_iload hx hb dX3_findWorstSlot_30 (lv_at hl 1 rfl) ?_
              refine lv_aload_n hx hb dX3_findWorstSlot_32 rfl (lv_at hl 5 rfl) ?_
              refine lv_iload hx hb dX3_findWorstSlot_33 (lv_at hl 0 rfl) ?_
              refine lv_iload_n hx hb dX3_findWorstSlot_35 rfl (lv_at hl 2 rfl) ?_
              refine CR_callN (As := [.int (iI (i)), .int (iI (t))]) (rest := [.ref (q 28), .int (iI (r))]) ⟨hx, hb, hml, hown, hts⟩ c_X6_cellOf ⟨va_cnB 2 hts ggX3_findWorstSlot_X6_cellOf rfl rfl rfl hNW.2.2.2 (hts (.initialized RX6) (by decide +kernel)) (by decide +kernel) ⟨Nat.le_of_ble_eq_true rfl, Nat.le_of_ble_eq_true rfl⟩, hts (.static yX6_cellOf) (by decide +kernel), trivial⟩ hK hNW hP rfl hl.1 rfl (Nat.le_of_ble_eq_true rfl) dX3_findWorstSlot_36 ⟨Nat.zero_le _, Nat.zero_le _⟩ ?_
              refine CR_callV (As := [.int (iI (i * 48 + t))]) (rest := [.int (iI (r))]) ⟨hx, hb, hml, hown, hts⟩ (c_X3_shortOf hw hg (by omega)) (cwV 1 hts gX3_findWorstSlot_X3_shortOf rfl rfl rfl (by decide +kernel) ⟨Nat.le_of_ble_eq_true rfl, Nat.le_of_ble_eq_true rfl⟩) (q0 := k28) h28 rfl rfl hK hNW hP rfl hl.1 rfl (Nat.le_of_ble_eq_true rfl) dX3_findWorstSlot_39 ⟨Nat.zero_le _, Nat.zero_le _⟩ ?_
              refine j_iadd hx hb dX3_findWorstSlot_42 ?_
              refine lv_istore (lv' := [(4, .int (iI (r + (shc g (i * 48 + t))))), (5, .int (iI (i))), (3, .int (iI (t))), (2, .int (iI (ll))), (1, .int (iI (bb))), (0, .ref (q 28))]) hx hb dX3_findWorstSlot_43 hl (by decide) rfl (fun ls hl => ?_)
              refine j_iinc (k := 1) (lv' := [(5, .int (iI (i + 1))), (4, .int (iI (r + (shc g (i * 48 + t))))), (3, .int (iI (t))), (2, .int (iI (ll))), (1, .int (iI (bb))), (0, .ref (q 28))]) hx hb dX3_findWorstSlot_45 hl rfl (by decide) rfl (fun ls hl => ?_)
              refine lv_goto (tgt := 18) hx hb dX3_findWorstSlot_48 rfl ?_
              exact ih18 (i + 1) (r + (shc g (i * 48 + t))) ls (by omega) (by rw [smI_s _ (by omega), ← g2, shc_at (by omega) (by omega)]) (by omega) (lv_sub hl [0, 1, 2, 3, 4, 5] rfl)
        exact L18 _ 0 0 ls (by omega) rfl (Nat.lt_succ_self _) (lv_sub hl [0, 1, 2, 3, 4, 5] rfl)
  exact L6 _ 0 (-1) 0 ls (by omega) rfl rfl (Nat.lt_succ_self _) (lv_sub hl [0, 1, 2, 3] rfl)
