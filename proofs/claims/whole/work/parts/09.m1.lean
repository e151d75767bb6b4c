/-- the reference's object and its row in a world -/
def MN (q : Nat → Nat) (C : Nat → ClassId) (w : va_W) (g : Int → Int) : Prop := ∃ (k0 k1 : Nat) (fs : List Value), w[k0]? = some (q 36, .inr (7, fs)) ∧ fs[11]? = some (.ref (q 38)) ∧ w[k1]? = some (q 38, .inl (C 1, 308, .inl (aI g)))
noncomputable def plc (g : Int → Int) : Int := smI (fun k => bI (¬ g (192 + 5 * k) - 1 = -1)) (g 3)
set_option maxHeartbeats 4000000 in
set_option maxRecDepth 100000 in
theorem c_X7_isIn {l : Launch} {D : va_G} {C : Nat → ClassId} {w : va_W} {vv aa bb : Int} (h1 : R32 vv) (h2 : R32 aa) (h3 : R32 bb) : CR l yX7_isIn wsX7_isIn 0 0 D C [.int (iI (vv)), .int (iI (aa)), .int (iI (bb))] (w) (.int (iI (bI (aa ≤ vv ∧ vv ≤ bb)))) := by
  refine CRZ_of (cc := cX7_isIn) (maxL := 3) (by decide) rfl (Nat.le_of_ble_eq_true rfl) (bI_01 _) ?_
  intro p e s m below meth c Q ls hx hb hml hown hts hK hNW hl hP hret
  have hl : lv_has ls 3 [(0, .int (iI (vv))), (1, .int (iI (aa))), (2, .int (iI (bb)))] := hl
  refine lv_iload_n hx hb dX7_isIn_0 rfl (lv_at hl 0 rfl) ?_
  refine lv_iload_n hx hb dX7_isIn_1 rfl (lv_at hl 1 rfl) ?_
  refine j_icmp_lt (tgt := 14) hx hb dX7_isIn_2 rfl h1 h2 (fun c2 => ?_) (fun c2 => ?_)
  · skip
    refine lv_iconst (v := iI (0)) hx hb dX7_isIn_14 rfl ?_
    exact hret ls 15 _ dX7_isIn_15 (by rw [bI_f (by omega)])
  · skip
    refine lv_iload_n hx hb dX7_isIn_5 rfl (lv_at hl 0 rfl) ?_
    refine lv_iload_n hx hb dX7_isIn_6 rfl (lv_at hl 2 rfl) ?_
    refine j_icmp_gt (tgt := 14) hx hb dX7_isIn_7 rfl h1 h3 (fun c7 => ?_) (fun c7 => ?_)
    · skip
      refine lv_iconst (v := iI (0)) hx hb dX7_isIn_14 rfl ?_
      exact hret ls 15 _ dX7_isIn_15 (by rw [bI_f (by omega)])
    · skip
      refine lv_iconst (v := iI (1)) hx hb dX7_isIn_10 rfl ?_
      refine lv_goto (tgt := 15) hx hb dX7_isIn_11 rfl ?_
      exact hret ls 15 _ dX7_isIn_15 (by rw [bI_t ⟨by omega, by omega⟩])

set_option maxHeartbeats 4000000 in
set_option maxRecDepth 100000 in
theorem c_X7_isDigit {l : Launch} {D : va_G} {C : Nat → ClassId} {w : va_W} {vv : Int} (h1 : R32 vv) : CR l yX7_isDigit wsX7_isDigit 0 0 D C [.int (iI (vv))] (w) (.int (iI (bI (48 ≤ vv ∧ vv ≤ 57)))) := by
  refine CRZ_of (cc := cX7_isDigit) (maxL := 1) (by decide) rfl (Nat.le_of_ble_eq_true rfl) (bI_01 _) ?_
  intro p e s m below meth c Q ls hx hb hml hown hts hK hNW hl hP hret
  have hl : lv_has ls 1 [(0, .int (iI (vv)))] := hl
  refine lv_iload_n hx hb dX7_isDigit_0 rfl (lv_at hl 0 rfl) ?_
  refine lv_bipush (v := iI (48)) hx hb dX7_isDigit_1 (by decide) ?_
  refine j_icmp_lt (tgt := 16) hx hb dX7_isDigit_3 rfl h1 ⟨by decide, by decide⟩ (fun c3 => ?_) (fun c3 => ?_)
  · skip
    refine lv_iconst (v := iI (0)) hx hb dX7_isDigit_16 rfl ?_
    exact hret ls 17 _ dX7_isDigit_17 (by rw [bI_f (by omega)])
  · skip
    refine lv_iload_n hx hb dX7_isDigit_6 rfl (lv_at hl 0 rfl) ?_
    refine lv_bipush (v := iI (57)) hx hb dX7_isDigit_7 (by decide) ?_
    refine j_icmp_gt (tgt := 16) hx hb dX7_isDigit_9 rfl h1 ⟨by decide, by decide⟩ (fun c9 => ?_) (fun c9 => ?_)
    · skip
      refine lv_iconst (v := iI (0)) hx hb dX7_isDigit_16 rfl ?_
      exact hret ls 17 _ dX7_isDigit_17 (by rw [bI_f (by omega)])
    · skip
      refine lv_iconst (v := iI (1)) hx hb dX7_isDigit_12 rfl ?_
      refine lv_goto (tgt := 17) hx hb dX7_isDigit_13 rfl ?_
      exact hret ls 17 _ dX7_isDigit_17 (by rw [bI_t ⟨by omega, by omega⟩])

set_option maxHeartbeats 4000000 in
set_option maxRecDepth 100000 in
theorem c_X7_isLetter {l : Launch} {D : va_G} {C : Nat → ClassId} {w : va_W} {vv : Int} (h1 : R32 vv) : CR l yX7_isLetter wsX7_isLetter 0 0 D C [.int (iI (vv))] (w) (.int (iI (bI (97 ≤ vv ∧ vv ≤ 122)))) := by
  refine CRZ_of (cc := cX7_isLetter) (maxL := 1) (by decide) rfl (Nat.le_of_ble_eq_true rfl) (bI_01 _) ?_
  intro p e s m below meth c Q ls hx hb hml hown hts hK hNW hl hP hret
  have hl : lv_has ls 1 [(0, .int (iI (vv)))] := hl
  refine lv_iload_n hx hb dX7_isLetter_0 rfl (lv_at hl 0 rfl) ?_
  refine lv_bipush (v := iI (97)) hx hb dX7_isLetter_1 (by decide) ?_
  refine j_icmp_lt (tgt := 16) hx hb dX7_isLetter_3 rfl h1 ⟨by decide, by decide⟩ (fun c3 => ?_) (fun c3 => ?_)
  · skip
    refine lv_iconst (v := iI (0)) hx hb dX7_isLetter_16 rfl ?_
    exact hret ls 17 _ dX7_isLetter_17 (by rw [bI_f (by omega)])
  · skip
    refine lv_iload_n hx hb dX7_isLetter_6 rfl (lv_at hl 0 rfl) ?_
    refine lv_bipush (v := iI (122)) hx hb dX7_isLetter_7 (by decide) ?_
    refine j_icmp_gt (tgt := 16) hx hb dX7_isLetter_9 rfl h1 ⟨by decide, by decide⟩ (fun c9 => ?_) (fun c9 => ?_)
    · skip
      refine lv_iconst (v := iI (0)) hx hb dX7_isLetter_16 rfl ?_
      exact hret ls 17 _ dX7_isLetter_17 (by rw [bI_f (by omega)])
    · skip
      refine lv_iconst (v := iI (1)) hx hb dX7_isLetter_12 rfl ?_
      refine lv_goto (tgt := 17) hx hb dX7_isLetter_13 rfl ?_
      exact hret ls 17 _ dX7_isLetter_17 (by rw [bI_t ⟨by omega, by omega⟩])

set_option maxHeartbeats 4000000 in
set_option maxRecDepth 100000 in
theorem c_X7_isSlot {l : Launch} {D : va_G} {C : Nat → ClassId} {w : va_W} {vv : Int} (h1 : R32 vv) : CR l yX7_isSlot wsX7_isSlot 1 22 D C [.int (iI (vv))] (w) (.int (iI (bI (0 ≤ vv ∧ vv < 48)))) := by
  refine CRZ_of (cc := cX7_isSlot) (maxL := 1) (by decide) rfl (Nat.le_of_ble_eq_true rfl) (bI_01 _) ?_
  intro p e s m below meth c Q ls hx hb hml hown hts hK hNW hl hP hret
  have hl : lv_has ls 1 [(0, .int (iI (vv)))] := hl
  refine lv_iload_n hx hb dX7_isSlot_0 rfl (lv_at hl 0 rfl) ?_
  refine lv_iconst (v := iI (0)) hx hb dX7_isSlot_1 rfl ?_
  refine lv_bipush (v := iI (47)) hx hb dX7_isSlot_2 (by decide) ?_
  refine CR_callS (As := [.int (iI (vv)), .int (iI (0)), .int (iI (47))]) (rest := []) ⟨hx, hb, hml, hown, hts⟩ (c_X7_isIn h1 ⟨by decide, by decide⟩ ⟨by decide, by decide⟩) (cwS 3 hts gX7_isSlot_X7_isIn rfl rfl rfl (by decide +kernel) ⟨Nat.le_of_ble_eq_true rfl, Nat.le_of_ble_eq_true rfl⟩) hK hNW hP rfl hl.1 rfl (Nat.le_of_ble_eq_true rfl) dX7_isSlot_4 ⟨Nat.zero_le _, Nat.zero_le _⟩ ?_
  exact hret ls 7 _ dX7_isSlot_7 (congrArg iI (bI_iff (by omega)))

set_option maxHeartbeats 4000000 in
set_option maxRecDepth 100000 in
theorem c_X7_duty {l : Launch} {D : va_G} {C : Nat → ClassId} {q : Nat → Nat} {w : va_W} {g : Int → Int} (hw : MN q C w g) {kk ww : Int} (h0 : 0 ≤ 148 + 5 * kk + ww) (h1 : 148 + 5 * kk + ww < 308) : CR l yX7_duty wsX7_duty 0 0 D C [.ref (q 36), .int (iI (kk)), .int (iI (ww))] (w) (.int (iI (g (148 + 5 * kk + ww)))) := by
  obtain ⟨k36, k38, fs, h36, f11, h38⟩ := id hw
  refine CR_of (cc := cX7_duty) (maxL := 3) (by decide) rfl (Nat.le_of_ble_eq_true rfl) ?_
  intro p e s m below meth c Q ls hx hb hml hown hts hK hNW hl hP hret
  have hl : lv_has ls 3 [(0, .ref (q 36)), (1, .int (iI (kk))), (2, .int (iI (ww)))] := hl
  refine lv_aload_n hx hb dX7_duty_0 rfl (lv_at hl 0 rfl) ?_
  refine va_get (D := D) (ci := 7) (v := .ref (q 38)) (C := RX7) (T := TX7) (N := 23) hx hb hts (by decide +kernel) hown hK hP k36 h36 rfl 11 (by decide) (hts (.fieldLink RX7 74 "BreakSetterModel" "now" "[I") (by decide +kernel)) (fun _ h9 => h9) f11 dX7_duty_1 ?_
  refine lv_sipush (v := iI (148)) hx hb dX7_duty_4 (by decide) ?_
  refine lv_iconst (v := iI (5)) hx hb dX7_duty_7 rfl ?_
  refine lv_iload_n hx hb dX7_duty_8 rfl (lv_at hl 1 rfl) ?_
  refine j_imul hx hb dX7_duty_9 ?_
  refine j_iadd hx hb dX7_duty_10 ?_
  refine lv_iload_n hx hb dX7_duty_11 rfl (lv_at hl 2 rfl) ?_
  refine j_iadd hx hb dX7_duty_12 ?_
  refine j_iald hx hb hK hP k38 1 h38 rfl ⟨by omega, by omega⟩ (Nat.le_of_ble_eq_true rfl) dX7_duty_13 ?_
  exact hret ls 14 _ dX7_duty_14 rfl

set_option maxHeartbeats 4000000 in
set_option maxRecDepth 100000 in
theorem c_X7_its {l : Launch} {D : va_G} {C : Nat → ClassId} {q : Nat → Nat} {w : va_W} {g : Int → Int} (hw : MN q C w g) {kk ww : Int} (h0 : 0 ≤ 188 + 5 * kk + ww) (h1 : 188 + 5 * kk + ww < 308) : CR l yX7_its wsX7_its 0 0 D C [.ref (q 36), .int (iI (kk)), .int (iI (ww))] (w) (.int (iI (g (188 + 5 * kk + ww)))) := by
  obtain ⟨k36, k38, fs, h36, f11, h38⟩ := id hw
  refine CR_of (cc := cX7_its) (maxL := 3) (by decide) rfl (Nat.le_of_ble_eq_true rfl) ?_
  intro p e s m below meth c Q ls hx hb hml hown hts hK hNW hl hP hret
  have hl : lv_has ls 3 [(0, .ref (q 36)), (1, .int (iI (kk))), (2, .int (iI (ww)))] := hl
  refine lv_aload_n hx hb dX7_its_0 rfl (lv_at hl 0 rfl) ?_
  refine va_get (D := D) (ci := 7) (v := .ref (q 38)) (C := RX7) (T := TX7) (N := 23) hx hb hts (by decide +kernel) hown hK hP k36 h36 rfl 11 (by decide) (hts (.fieldLink RX7 74 "BreakSetterModel" "now" "[I") (by decide +kernel)) (fun _ h9 => h9) f11 dX7_its_1 ?_
  refine lv_sipush (v := iI (188)) hx hb dX7_its_4 (by decide) ?_
  refine lv_iconst (v := iI (5)) hx hb dX7_its_7 rfl ?_
  refine lv_iload_n hx hb dX7_its_8 rfl (lv_at hl 1 rfl) ?_
  refine j_imul hx hb dX7_its_9 ?_
  refine j_iadd hx hb dX7_its_10 ?_
  refine lv_iload_n hx hb dX7_its_11 rfl (lv_at hl 2 rfl) ?_
  refine j_iadd hx hb dX7_its_12 ?_
  refine j_iald hx hb hK hP k38 1 h38 rfl ⟨by omega, by omega⟩ (Nat.le_of_ble_eq_true rfl) dX7_its_13 ?_
  exact hret ls 14 _ dX7_its_14 rfl

set_option maxHeartbeats 4000000 in
set_option maxRecDepth 100000 in
theorem c_X7_placeOf {l : Launch} {D : va_G} {C : Nat → ClassId} {q : Nat → Nat} {w : va_W} {g : Int → Int} (hw : MN q C w g) {kk : Int} (h0 : 0 ≤ kk) (h1 : kk < 24) : CR l yX7_placeOf wsX7_placeOf 1 22 D C [.ref (q 36), .int (iI (kk))] (w) (.int (iI (g (192 + 5 * kk) - 1))) := by
  obtain ⟨k36, k38, fs, h36, f11, h38⟩ := id hw
  refine CR_of (cc := cX7_placeOf) (maxL := 2) (by decide) rfl (Nat.le_of_ble_eq_true rfl) ?_
  intro p e s m below meth c Q ls hx hb hml hown hts hK hNW hl hP hret
  have hl : lv_has ls 2 [(0, .ref (q 36)), (1, .int (iI (kk)))] := hl
  refine lv_aload_n hx hb dX7_placeOf_0 rfl (lv_at hl 0 rfl) ?_
  refine lv_iload_n hx hb dX7_placeOf_1 rfl (lv_at hl 1 rfl) ?_
  refine lv_iconst (v := iI (4)) hx hb dX7_placeOf_2 rfl ?_
  refine CR_callV (As := [.int (iI (kk)), .int (iI (4))]) (rest := []) ⟨hx, hb, hml, hown, hts⟩ (c_X7_its hw (by omega) (by omega)) (cwV 2 hts gX7_placeOf_X7_its rfl rfl rfl (by decide +kernel) ⟨Nat.le_of_ble_eq_true rfl, Nat.le_of_ble_eq_true rfl⟩) (q0 := k36) h36 rfl rfl hK hNW hP rfl hl.1 rfl (Nat.le_of_ble_eq_true rfl) dX7_placeOf_3 ⟨Nat.zero_le _, Nat.zero_le _⟩ ?_
  refine W_wen (y := iI (g (192 + 5 * kk))) (congrArg iI (congrArg g (by omega))) ?_
  refine lv_iconst (v := iI (1)) hx hb dX7_placeOf_6 rfl ?_
  refine j_isub hx hb dX7_placeOf_7 ?_
  exact hret ls 8 _ dX7_placeOf_8 rfl

set_option maxHeartbeats 4000000 in
set_option maxRecDepth 100000 in
theorem c_X7_needOf {l : Launch} {D : va_G} {C : Nat → ClassId} {q : Nat → Nat} {w : va_W} {g : Int → Int} (hw : MN q C w g) {pp tt : Int} (hp : 0 ≤ pp ∧ pp < 3) (ht : 0 ≤ tt ∧ tt < 48) : CR l yX7_needOf wsX7_needOf 0 0 D C [.ref (q 36), .int (iI (pp)), .int (iI (tt))] (w) (.int (iI (g (4 + 48 * pp + tt)))) := by
  obtain ⟨k36, k38, fs, h36, f11, h38⟩ := id hw
  refine CR_of (cc := cX7_needOf) (maxL := 3) (by decide) rfl (Nat.le_of_ble_eq_true rfl) ?_
  intro p e s m below meth c Q ls hx hb hml hown hts hK hNW hl hP hret
  have hl : lv_has ls 3 [(0, .ref (q 36)), (1, .int (iI (pp))), (2, .int (iI (tt)))] := hl
  refine lv_aload_n hx hb dX7_needOf_0 rfl (lv_at hl 0 rfl) ?_
  refine va_get (D := D) (ci := 7) (v := .ref (q 38)) (C := RX7) (T := TX7) (N := 23) hx hb hts (by decide +kernel) hown hK hP k36 h36 rfl 11 (by decide) (hts (.fieldLink RX7 74 "BreakSetterModel" "now" "[I") (by decide +kernel)) (fun _ h9 => h9) f11 dX7_needOf_1 ?_
  refine lv_iconst (v := iI (4)) hx hb dX7_needOf_4 rfl ?_
  refine lv_bipush (v := iI (48)) hx hb dX7_needOf_5 (by decide) ?_
  refine lv_iload_n hx hb dX7_needOf_7 rfl (lv_at hl 1 rfl) ?_
  refine j_imul hx hb dX7_needOf_8 ?_
  refine j_iadd hx hb dX7_needOf_9 ?_
  refine lv_iload_n hx hb dX7_needOf_10 rfl (lv_at hl 2 rfl) ?_
  refine j_iadd hx hb dX7_needOf_11 ?_
  refine j_iald hx hb hK hP k38 1 h38 rfl ⟨by omega, by omega⟩ (Nat.le_of_ble_eq_true rfl) dX7_needOf_12 ?_
  exact hret ls 13 _ dX7_needOf_13 rfl

set_option maxHeartbeats 4000000 in
set_option maxRecDepth 100000 in
theorem c_X7_isPost {l : Launch} {D : va_G} {C : Nat → ClassId} {q : Nat → Nat} {w : va_W} {g : Int → Int} (hw : MN q C w g) (hg : Wf g) {vv : Int} (h1 : R32 vv) : CR l yX7_isPost wsX7_isPost 1 22 D C [.ref (q 36), .int (iI (vv))] (w) (.int (iI (bI (0 ≤ vv ∧ vv < g 0)))) := by
  obtain ⟨k36, k38, fs, h36, f11, h38⟩ := id hw
  refine CRZ_of (cc := cX7_isPost) (maxL := 2) (by decide) rfl (Nat.le_of_ble_eq_true rfl) (bI_01 _) ?_
  intro p e s m below meth c Q ls hx hb hml hown hts hK hNW hl hP hret
  have hl : lv_has ls 2 [(0, .ref (q 36)), (1, .int (iI (vv)))] := hl
  have n := Wf_n hg
  refine lv_iload_n hx hb dX7_isPost_0 rfl (lv_at hl 1 rfl) ?_
  refine lv_iconst (v := iI (0)) hx hb dX7_isPost_1 rfl ?_
  refine lv_aload_n hx hb dX7_isPost_2 rfl (lv_at hl 0 rfl) ?_
  refine va_get (D := D) (ci := 7) (v := .ref (q 38)) (C := RX7) (T := TX7) (N := 23) hx hb hts (by decide +kernel) hown hK hP k36 h36 rfl 11 (by decide) (hts (.fieldLink RX7 74 "BreakSetterModel" "now" "[I") (by decide +kernel)) (fun _ h9 => h9) f11 dX7_isPost_3 ?_
  refine lv_iconst (v := iI (0)) hx hb dX7_isPost_6 rfl ?_
  refine j_iald hx hb hK hP k38 1 h38 rfl ⟨by omega, by omega⟩ (Nat.le_of_ble_eq_true rfl) dX7_isPost_7 ?_
  refine lv_iconst (v := iI (1)) hx hb dX7_isPost_8 rfl ?_
  refine j_isub hx hb dX7_isPost_9 ?_
  refine CR_callS (As := [.int (iI (vv)), .int (iI (0)), .int (iI ((g 0) - 1))]) (rest := []) ⟨hx, hb, hml, hown, hts⟩ (c_X7_isIn h1 ⟨by decide, by decide⟩ ⟨by omega, by omega⟩) (cwS 3 hts gX7_isPost_X7_isIn rfl rfl rfl (by decide +kernel) ⟨Nat.le_of_ble_eq_true rfl, Nat.le_of_ble_eq_true rfl⟩) hK hNW hP rfl hl.1 rfl (Nat.le_of_ble_eq_true rfl) dX7_isPost_10 ⟨Nat.zero_le _, Nat.zero_le _⟩ ?_
  exact hret ls 13 _ dX7_isPost_13 (congrArg iI (bI_iff (by omega)))

set_option maxHeartbeats 4000000 in
set_option maxRecDepth 100000 in
theorem c_X7_isPause {l : Launch} {D : va_G} {C : Nat → ClassId} {q : Nat → Nat} {w : va_W} {g : Int → Int} (hw : MN q C w g) (hg : Wf g) {vv : Int} (h1 : R32 vv) : CR l yX7_isPause wsX7_isPause 1 22 D C [.ref (q 36), .int (iI (vv))] (w) (.int (iI (bI (0 ≤ vv ∧ vv < g 3)))) := by
  obtain ⟨k36, k38, fs, h36, f11, h38⟩ := id hw
  refine CRZ_of (cc := cX7_isPause) (maxL := 2) (by decide) rfl (Nat.le_of_ble_eq_true rfl) (bI_01 _) ?_
  intro p e s m below meth c Q ls hx hb hml hown hts hK hNW hl hP hret
  have hl : lv_has ls 2 [(0, .ref (q 36)), (1, .int (iI (vv)))] := hl
  have n := Wf_n hg
  refine lv_iload_n hx hb dX7_isPause_0 rfl (lv_at hl 1 rfl) ?_
  refine lv_iconst (v := iI (0)) hx hb dX7_isPause_1 rfl ?_
  refine lv_aload_n hx hb dX7_isPause_2 rfl (lv_at hl 0 rfl) ?_
  refine va_get (D := D) (ci := 7) (v := .ref (q 38)) (C := RX7) (T := TX7) (N := 23) hx hb hts (by decide +kernel) hown hK hP k36 h36 rfl 11 (by decide) (hts (.fieldLink RX7 74 "BreakSetterModel" "now" "[I") (by decide +kernel)) (fun _ h9 => h9) f11 dX7_isPause_3 ?_
  refine lv_iconst (v := iI (3)) hx hb dX7_isPause_6 rfl ?_
  refine j_iald hx hb hK hP k38 1 h38 rfl ⟨by omega, by omega⟩ (Nat.le_of_ble_eq_true rfl) dX7_isPause_7 ?_
  refine lv_iconst (v := iI (1)) hx hb dX7_isPause_8 rfl ?_
  refine j_isub hx hb dX7_isPause_9 ?_
  refine CR_callS (As := [.int (iI (vv)), .int (iI (0)), .int (iI ((g 3) - 1))]) (rest := []) ⟨hx, hb, hml, hown, hts⟩ (c_X7_isIn h1 ⟨by decide, by decide⟩ ⟨by omega, by omega⟩) (cwS 3 hts gX7_isPause_X7_isIn rfl rfl rfl (by decide +kernel) ⟨Nat.le_of_ble_eq_true rfl, Nat.le_of_ble_eq_true rfl⟩) hK hNW hP rfl hl.1 rfl (Nat.le_of_ble_eq_true rfl) dX7_isPause_10 ⟨Nat.zero_le _, Nat.zero_le _⟩ ?_
  exact hret ls 13 _ dX7_isPause_13 (congrArg iI (bI_iff (by omega)))

set_option maxHeartbeats 4000000 in
set_option maxRecDepth 100000 in
theorem c_X7_onDuty {l : Launch} {D : va_G} {C : Nat → ClassId} {q : Nat → Nat} {w : va_W} {g : Int → Int} (hw : MN q C w g) (hg : Wf g) {pp tt : Int} (hp : 0 ≤ pp ∧ pp < 3) (ht : 0 ≤ tt ∧ tt < 48) : CR l yX7_onDuty wsX7_onDuty 1 22 D C [.ref (q 36), .int (iI (pp)), .int (iI (tt))] (w) (.int (iI (onD g pp tt))) := by
  obtain ⟨k36, k38, fs, h36, f11, h38⟩ := id hw
  refine CR_of (cc := cX7_onDuty) (maxL := 5) (by decide) rfl (Nat.le_of_ble_eq_true rfl) ?_
  intro p e s m below meth c Q ls hx hb hml hown hts hK hNW hl hP hret
  have hl : lv_has ls 5 [(0, .ref (q 36)), (1, .int (iI (pp))), (2, .int (iI (tt)))] := hl
  have n := Wf_n hg
  refine lv_iconst (v := iI (0)) hx hb dX7_onDuty_0 rfl ?_
  refine lv_istore_n (lv' := [(3, .int (iI (0))), (0, .ref (q 36)), (1, .int (iI (pp))), (2, .int (iI (tt)))]) hx hb dX7_onDuty_1 rfl hl (by decide) rfl (fun ls hl => ?_)
  refine lv_iconst (v := iI (0)) hx hb dX7_onDuty_2 rfl ?_
  refine lv_istore (lv' := [(4, .int (iI (0))), (3, .int (iI (0))), (0, .ref (q 36)), (1, .int (iI (pp))), (2, .int (iI (tt)))]) hx hb dX7_onDuty_3 hl (by decide) rfl (fun ls hl => ?_)
  have L5 : ∀ (n : Nat) (i : Int) (r : Int) (ls : Array Slot), (0 ≤ i ∧ i ≤ g 2) → (r = smI (dq g pp tt) i) → ((g 2 - i).toNat < n) → (lv_has ls 5 [(4, .int (iI (i))), (3, .int (iI (r))), (0, .ref (q 36)), (1, .int (iI (pp))), (2, .int (iI (tt)))]) → W p l e (rmN 1 22) s m ([.ref (q 36), .int (iI (pp)), .int (iI (tt))] : List Value).toArray below meth c s.heap [] 0 0 Q (F0 m 5 ls []) := by
    intro n
    induction n with
    | zero => intro i r ls h1 h2 hn; exact absurd hn (Nat.not_lt_zero _)
    | succ n ih5 =>
      intro i r ls h1 h2 hn hl
      have hn5 := hn
      refine lv_iload hx hb dX7_onDuty_5 (lv_at hl 0 rfl) ?_
      refine lv_aload_n hx hb dX7_onDuty_7 rfl (lv_at hl 2 rfl) ?_
      refine va_get (D := D) (ci := 7) (v := .ref (q 38)) (C := RX7) (T := TX7) (N := 23) hx hb hts (by decide +kernel) hown hK hP k36 h36 rfl 11 (by decide) (hts (.fieldLink RX7 74 "BreakSetterModel" "now" "[I") (by decide +kernel)) (fun _ h9 => h9) f11 dX7_onDuty_8 ?_
      refine lv_iconst (v := iI (2)) hx hb dX7_onDuty_11 rfl ?_
      refine j_iald hx hb hK hP k38 1 h38 rfl ⟨by omega, by omega⟩ (Nat.le_of_ble_eq_true rfl) dX7_onDuty_12 ?_
      refine j_icmp_ge (tgt := 57) hx hb dX7_onDuty_13 rfl ⟨by omega, by omega⟩ ⟨by omega, by omega⟩ (fun c13 => ?_) (fun c13 => ?_)
      · skip
        refine lv_iload_n hx hb dX7_onDuty_57 rfl (lv_at hl 1 rfl) ?_
        exact hret ls 58 _ dX7_onDuty_58 (by rw [h2, show i = g 2 by omega]; rfl)
      · skip
        have b := Wf_sh hg (s := i) (by omega) (by omega)
        refine lv_aload_n hx hb dX7_onDuty_16 rfl (lv_at hl 2 rfl) ?_
        refine lv_iload hx hb dX7_onDuty_17 (lv_at hl 0 rfl) ?_
        refine lv_iconst (v := iI (0)) hx hb dX7_onDuty_19 rfl ?_
        refine CR_callV (As := [.int (iI (i)), .int (iI (0))]) (rest := []) ⟨hx, hb, hml, hown, hts⟩ (c_X7_duty hw (by omega) (by omega)) (cwV 2 hts gX7_onDuty_X7_duty rfl rfl rfl (by decide +kernel) ⟨Nat.le_of_ble_eq_true rfl, Nat.le_of_ble_eq_true rfl⟩) (q0 := k36) h36 rfl rfl hK hNW hP rfl hl.1 rfl (Nat.le_of_ble_eq_true rfl) dX7_onDuty_20 ⟨Nat.zero_le _, Nat.zero_le _⟩ ?_
        refine W_wen (y := iI (g (148 + 5 * i))) (congrArg iI (congrArg g (by omega))) ?_
        refine lv_iload_n hx hb dX7_onDuty_23 rfl (lv_at hl 3 rfl) ?_
        refine j_icmp_ne (tgt := 51) hx hb dX7_onDuty_24 rfl ⟨by omega, by omega⟩ ⟨by omega, by omega⟩ (fun c24 => ?_) (fun c24 => ?_)
        · skip
          refine j_iinc (k := 0) (lv' := [(4, .int (iI (i + 1))), (3, .int (iI (r))), (0, .ref (q 36)), (1, .int (iI (pp))), (2, .int (iI (tt)))]) hx hb dX7_onDuty_51 hl rfl (by decide) rfl (fun ls hl => ?_)
          refine lv_goto (tgt := 5) hx hb dX7_onDuty_54 rfl ?_
          exact ih5 (i + 1) r ls (by omega) (by rw [smI_s _ (by omega), ← h2]; unfold dq; (rw [bI_f (fun h => c24 h.1)]; omega)) (by omega) (lv_sub hl [0, 1, 2, 3, 4] rfl)
        · skip
          refine lv_iload_n hx hb dX7_onDuty_27 rfl (lv_at hl 4 rfl) ?_
          refine lv_aload_n hx hb dX7_onDuty_28 rfl (lv_at hl 2 rfl) ?_
          refine lv_iload hx hb dX7_onDuty_29 (lv_at hl 0 rfl) ?_
          refine lv_iconst (v := iI (1)) hx hb dX7_onDuty_31 rfl ?_
          refine CR_callV (As := [.int (iI (i)), .int (iI (1))]) (rest := [.int (iI (tt))]) ⟨hx, hb, hml, hown, hts⟩ (c_X7_duty hw (by omega) (by omega)) (cwV 2 hts gX7_onDuty_X7_duty rfl rfl rfl (by decide +kernel) ⟨Nat.le_of_ble_eq_true rfl, Nat.le_of_ble_eq_true rfl⟩) (q0 := k36) h36 rfl rfl hK hNW hP rfl hl.1 rfl (Nat.le_of_ble_eq_true rfl) dX7_onDuty_32 ⟨Nat.zero_le _, Nat.zero_le _⟩ ?_
          refine W_wen (y := iI (g (149 + 5 * i))) (congrArg iI (congrArg g (by omega))) ?_
          refine lv_aload_n hx hb dX7_onDuty_35 rfl (lv_at hl 2 rfl) ?_
          refine lv_iload hx hb dX7_onDuty_36 (lv_at hl 0 rfl) ?_
          refine lv_iconst (v := iI (2)) hx hb dX7_onDuty_38 rfl ?_
          refine CR_callV (As := [.int (iI (i)), .int (iI (2))]) (rest := [.int (iI (g (149 + 5 * i))), .int (iI (tt))]) ⟨hx, hb, hml, hown, hts⟩ (c_X7_duty hw (by omega) (by omega)) (cwV 2 hts gX7_onDuty_X7_duty rfl rfl rfl (by decide +kernel) ⟨Nat.le_of_ble_eq_true rfl, Nat.le_of_ble_eq_true rfl⟩) (q0 := k36) h36 rfl rfl hK hNW hP rfl hl.1 rfl (Nat.le_of_ble_eq_true rfl) dX7_onDuty_39 ⟨Nat.zero_le _, Nat.zero_le _⟩ ?_
          refine W_wen (y := iI (g (150 + 5 * i))) (congrArg iI (congrArg g (by omega))) ?_
          refine CR_callS (As := [.int (iI (tt)), .int (iI (g (149 + 5 * i))), .int (iI (g (150 + 5 * i)))]) (rest := []) ⟨hx, hb, hml, hown, hts⟩ (c_X7_isIn ⟨by omega, by omega⟩ ⟨by omega, by omega⟩ ⟨by omega, by omega⟩) (cwS 3 hts gX7_onDuty_X7_isIn rfl rfl rfl (by decide +kernel) ⟨Nat.le_of_ble_eq_true rfl, Nat.le_of_ble_eq_true rfl⟩) hK hNW hP rfl hl.1 rfl (Nat.le_of_ble_eq_true rfl) dX7_onDuty_42 ⟨Nat.zero_le _, Nat.zero_le _⟩ ?_
          refine j_ifeqB (tgt := 51) hx hb dX7_onDuty_45 rfl (fun c45 => ?_) (fun c45 => ?_)
          · skip
            refine j_iinc (k := 0) (lv' := [(4, .int (iI (i + 1))), (3, .int (iI (r))), (0, .ref (q 36)), (1, .int (iI (pp))), (2, .int (iI (tt)))]) hx hb dX7_onDuty_51 hl rfl (by decide) rfl (fun ls hl => ?_)
            refine lv_goto (tgt := 5) hx hb dX7_onDuty_54 rfl ?_
            exact ih5 (i + 1) r ls (by omega) (by rw [smI_s _ (by omega), ← h2]; unfold dq; first | (rw [bI_t ⟨c24, c45⟩]; done) | (rw [bI_f (fun h => c45 h.2)]; omega) | (rw [bI_f (fun h => c24 h.1)]; omega)) (by omega) (lv_sub hl [0, 1, 2, 3, 4] rfl)
          · skip
            refine j_iinc (k := 1) (lv' := [(3, .int (iI (r + 1))), (4, .int (iI (i))), (0, .ref (q 36)), (1, .int (iI (pp))), (2, .int (iI (tt)))]) hx hb dX7_onDuty_48 hl rfl (by decide) rfl (fun ls hl => ?_)
            refine j_iinc (k := 1) (lv' := [(4, .int (iI (i + 1))), (3, .int (iI (r + 1))), (0, .ref (q 36)), (1, .int (iI (pp))), (2, .int (iI (tt)))]) hx hb dX7_onDuty_51 hl rfl (by decide) rfl (fun ls hl => ?_)
            refine lv_goto (tgt := 5) hx hb dX7_onDuty_54 rfl ?_
            exact ih5 (i + 1) (r + 1) ls (by omega) (by rw [smI_s _ (by omega), ← h2]; unfold dq; first | (rw [bI_t ⟨c24, c45⟩]; done) | (rw [bI_f (fun h => c45 h.2)]; omega) | (rw [bI_f (fun h => c24 h.1)]; omega)) (by omega) (lv_sub hl [0, 1, 2, 3, 4] rfl)
  exact L5 _ 0 0 ls (by omega) rfl (Nat.lt_succ_self _) (lv_sub hl [0, 1, 2, 3, 4] rfl)

set_option maxHeartbeats 4000000 in
set_option maxRecDepth 100000 in
theorem c_X7_isPausing {l : Launch} {D : va_G} {C : Nat → ClassId} {q : Nat → Nat} {w : va_W} {g : Int → Int} (hw : MN q C w g) (hg : Wf g) {kk tt : Int} (hk : 0 ≤ kk ∧ kk < g 3) (ht : 0 ≤ tt ∧ tt < 48) : CR l yX7_isPausing wsX7_isPausing 2 43 D C [.ref (q 36), .int (iI (kk)), .int (iI (tt))] (w) (.int (iI (bI (pau g kk tt)))) := by
  obtain ⟨k36, k38, fs, h36, f11, h38⟩ := id hw
  refine CRZ_of (cc := cX7_isPausing) (maxL := 3) (by decide) rfl (Nat.le_of_ble_eq_true rfl) (bI_01 _) ?_
  intro p e s m below meth c Q ls hx hb hml hown hts hK hNW hl hP hret
  have hl : lv_has ls 3 [(0, .ref (q 36)), (1, .int (iI (kk))), (2, .int (iI (tt)))] := hl
  have n := Wf_n hg
  have b := Wf_p hg hk.1 hk.2
  refine lv_aload_n hx hb dX7_isPausing_0 rfl (lv_at hl 0 rfl) ?_
  refine lv_iload_n hx hb dX7_isPausing_1 rfl (lv_at hl 1 rfl) ?_
  refine CR_callV (As := [.int (iI (kk))]) (rest := []) ⟨hx, hb, hml, hown, hts⟩ (c_X7_placeOf hw (by omega) (by omega)) (cwV 1 hts gX7_isPausing_X7_placeOf rfl rfl rfl (by decide +kernel) ⟨Nat.le_of_ble_eq_true rfl, Nat.le_of_ble_eq_true rfl⟩) (q0 := k36) h36 rfl rfl hK hNW hP rfl hl.1 rfl (Nat.le_of_ble_eq_true rfl) dX7_isPausing_2 ⟨Nat.zero_le _, Nat.zero_le _⟩ ?_
  refine lv_iconst (v := iI (-1)) hx hb dX7_isPausing_5 rfl ?_
  refine j_icmp_eq (tgt := 39) hx hb dX7_isPausing_6 rfl ⟨by omega, by omega⟩ ⟨by decide, by decide⟩ (fun c6 => ?_) (fun c6 => ?_)
  · skip
    refine lv_iconst (v := iI (0)) hx hb dX7_isPausing_39 rfl ?_
    exact hret ls 40 _ dX7_isPausing_40 (by rw [bI_f (show ¬ pau g kk tt by exact fun h => h.1 c6)])
  · skip
    refine lv_iload_n hx hb dX7_isPausing_9 rfl (lv_at hl 2 rfl) ?_
    refine lv_aload_n hx hb dX7_isPausing_10 rfl (lv_at hl 0 rfl) ?_
    refine lv_iload_n hx hb dX7_isPausing_11 rfl (lv_at hl 1 rfl) ?_
    refine CR_callV (As := [.int (iI (kk))]) (rest := [.int (iI (tt))]) ⟨hx, hb, hml, hown, hts⟩ (c_X7_placeOf hw (by omega) (by omega)) (cwV 1 hts gX7_isPausing_X7_placeOf rfl rfl rfl (by decide +kernel) ⟨Nat.le_of_ble_eq_true rfl, Nat.le_of_ble_eq_true rfl⟩) (q0 := k36) h36 rfl rfl hK hNW hP rfl hl.1 rfl (Nat.le_of_ble_eq_true rfl) dX7_isPausing_12 ⟨Nat.zero_le _, Nat.zero_le _⟩ ?_
    refine lv_aload_n hx hb dX7_isPausing_15 rfl (lv_at hl 0 rfl) ?_
    refine lv_iload_n hx hb dX7_isPausing_16 rfl (lv_at hl 1 rfl) ?_
    refine CR_callV (As := [.int (iI (kk))]) (rest := [.int (iI (g (192 + 5 * kk) - 1)), .int (iI (tt))]) ⟨hx, hb, hml, hown, hts⟩ (c_X7_placeOf hw (by omega) (by omega)) (cwV 1 hts gX7_isPausing_X7_placeOf rfl rfl rfl (by decide +kernel) ⟨Nat.le_of_ble_eq_true rfl, Nat.le_of_ble_eq_true rfl⟩) (q0 := k36) h36 rfl rfl hK hNW hP rfl hl.1 rfl (Nat.le_of_ble_eq_true rfl) dX7_isPausing_17 ⟨Nat.zero_le _, Nat.zero_le _⟩ ?_
    refine lv_aload_n hx hb dX7_isPausing_20 rfl (lv_at hl 0 rfl) ?_
    refine lv_iload_n hx hb dX7_isPausing_21 rfl (lv_at hl 1 rfl) ?_
    refine lv_iconst (v := iI (1)) hx hb dX7_isPausing_22 rfl ?_
    refine CR_callV (As := [.int (iI (kk)), .int (iI (1))]) (rest := [.int (iI (g (192 + 5 * kk) - 1)), .int (iI (g (192 + 5 * kk) - 1)), .int (iI (tt))]) ⟨hx, hb, hml, hown, hts⟩ (c_X7_its hw (by omega) (by omega)) (cwV 2 hts gX7_isPausing_X7_its rfl rfl rfl (by decide +kernel) ⟨Nat.le_of_ble_eq_true rfl, Nat.le_of_ble_eq_true rfl⟩) (q0 := k36) h36 rfl rfl hK hNW hP rfl hl.1 rfl (Nat.le_of_ble_eq_true rfl) dX7_isPausing_23 ⟨Nat.zero_le _, Nat.zero_le _⟩ ?_
    refine W_wen (y := iI (g (189 + 5 * kk))) (congrArg iI (congrArg g (by omega))) ?_
    refine j_iadd hx hb dX7_isPausing_26 ?_
    refine lv_iconst (v := iI (1)) hx hb dX7_isPausing_27 rfl ?_
    refine j_isub hx hb dX7_isPausing_28 ?_
    refine CR_callS (As := [.int (iI (tt)), .int (iI (g (192 + 5 * kk) - 1)), .int (iI (((g (192 + 5 * kk) - 1) + (g (189 + 5 * kk))) - 1))]) (rest := []) ⟨hx, hb, hml, hown, hts⟩ (c_X7_isIn ⟨by omega, by omega⟩ ⟨by omega, by omega⟩ ⟨by omega, by omega⟩) (cwS 3 hts gX7_isPausing_X7_isIn rfl rfl rfl (by decide +kernel) ⟨Nat.le_of_ble_eq_true rfl, Nat.le_of_ble_eq_true rfl⟩) hK hNW hP rfl hl.1 rfl (Nat.le_of_ble_eq_true rfl) dX7_isPausing_29 ⟨Nat.zero_le _, Nat.zero_le _⟩ ?_
    refine j_ifeqB (tgt := 39) hx hb dX7_isPausing_32 rfl (fun c32 => ?_) (fun c32 => ?_)
    · skip
      refine lv_iconst (v := iI (0)) hx hb dX7_isPausing_39 rfl ?_
      exact hret ls 40 _ dX7_isPausing_40 (by rw [bI_f (show ¬ pau g kk tt by first | exact fun h => h.1 c6 | exact fun h => c32 h.2)])
    · skip
      refine lv_iconst (v := iI (1)) hx hb dX7_isPausing_35 rfl ?_
      refine lv_goto (tgt := 40) hx hb dX7_isPausing_36 rfl ?_
      exact hret ls 40 _ dX7_isPausing_40 (by rw [bI_t (show pau g kk tt from ⟨c6, c32⟩)])

set_option maxHeartbeats 4000000 in
set_option maxRecDepth 100000 in
theorem c_X7_coverOf {l : Launch} {D : va_G} {C : Nat → ClassId} {q : Nat → Nat} {w : va_W} {g : Int → Int} (hw : MN q C w g) (hg : Wf g) {pp tt : Int} (hp : 0 ≤ pp ∧ pp < 3) (ht : 0 ≤ tt ∧ tt < 48) : CR l yX7_coverOf wsX7_coverOf 3 65 D C [.ref (q 36), .int (iI (pp)), .int (iI (tt))] (w) (.int (iI (cov g pp tt))) := by
  obtain ⟨k36, k38, fs, h36, f11, h38⟩ := id hw
  refine CR_of (cc := cX7_coverOf) (maxL := 5) (by decide) rfl (Nat.le_of_ble_eq_true rfl) ?_
  intro p e s m below meth c Q ls hx hb hml hown hts hK hNW hl hP hret
  have hl : lv_has ls 5 [(0, .ref (q 36)), (1, .int (iI (pp))), (2, .int (iI (tt)))] := hl
  have n := Wf_n hg
  refine lv_aload_n hx hb dX7_coverOf_0 rfl (lv_at hl 0 rfl) ?_
  refine lv_iload_n hx hb dX7_coverOf_1 rfl (lv_at hl 1 rfl) ?_
  refine lv_iload_n hx hb dX7_coverOf_2 rfl (lv_at hl 2 rfl) ?_
  refine CR_callV (As := [.int (iI (pp)), .int (iI (tt))]) (rest := []) ⟨hx, hb, hml, hown, hts⟩ (c_X7_onDuty hw hg (by omega) (by omega)) (cwV 2 hts gX7_coverOf_X7_onDuty rfl rfl rfl (by decide +kernel) ⟨Nat.le_of_ble_eq_true rfl, Nat.le_of_ble_eq_true rfl⟩) (q0 := k36) h36 rfl rfl hK hNW hP rfl hl.1 rfl (Nat.le_of_ble_eq_true rfl) dX7_coverOf_3 ⟨Nat.zero_le _, Nat.zero_le _⟩ ?_
  refine lv_istore_n (lv' := [(3, .int (iI (onD g pp tt))), (0, .ref (q 36)), (1, .int (iI (pp))), (2, .int (iI (tt)))]) hx hb dX7_coverOf_6 rfl hl (by decide) rfl (fun ls hl => ?_)
  refine lv_iconst (v := iI (0)) hx hb dX7_coverOf_7 rfl ?_
  refine lv_istore (lv' := [(4, .int (iI (0))), (3, .int (iI (onD g pp tt))), (0, .ref (q 36)), (1, .int (iI (pp))), (2, .int (iI (tt)))]) hx hb dX7_coverOf_8 hl (by decide) rfl (fun ls hl => ?_)
  have L10 : ∀ (n : Nat) (i : Int) (r : Int) (ls : Array Slot), (0 ≤ i ∧ i ≤ g 3) → (r = onD g pp tt - smI (pq g pp tt) i) → ((g 3 - i).toNat < n) → (lv_has ls 5 [(4, .int (iI (i))), (3, .int (iI (r))), (0, .ref (q 36)), (1, .int (iI (pp))), (2, .int (iI (tt)))]) → W p l e (rmN 3 65) s m ([.ref (q 36), .int (iI (pp)), .int (iI (tt))] : List Value).toArray below meth c s.heap [] 0 0 Q (F0 m 10 ls []) := by
    intro n
    induction n with
    | zero => intro i r ls h1 h2 hn; exact absurd hn (Nat.not_lt_zero _)
    | succ n ih10 =>
      intro i r ls h1 h2 hn hl
      have hn10 := hn
      refine lv_iload hx hb dX7_coverOf_10 (lv_at hl 0 rfl) ?_
      refine lv_aload_n hx hb dX7_coverOf_12 rfl (lv_at hl 2 rfl) ?_
      refine va_get (D := D) (ci := 7) (v := .ref (q 38)) (C := RX7) (T := TX7) (N := 23) hx hb hts (by decide +kernel) hown hK hP k36 h36 rfl 11 (by decide) (hts (.fieldLink RX7 74 "BreakSetterModel" "now" "[I") (by decide +kernel)) (fun _ h9 => h9) f11 dX7_coverOf_13 ?_
      refine lv_iconst (v := iI (3)) hx hb dX7_coverOf_16 rfl ?_
      refine j_iald hx hb hK hP k38 1 h38 rfl ⟨by omega, by omega⟩ (Nat.le_of_ble_eq_true rfl) dX7_coverOf_17 ?_
      refine j_icmp_ge (tgt := 56) hx hb dX7_coverOf_18 rfl ⟨by omega, by omega⟩ ⟨by omega, by omega⟩ (fun c18 => ?_) (fun c18 => ?_)
      · skip
        refine lv_iload_n hx hb dX7_coverOf_56 rfl (lv_at hl 1 rfl) ?_
        exact hret ls 57 _ dX7_coverOf_57 (by rw [h2, show i = g 3 by omega]; rfl)
      · skip
        have b := Wf_p hg (k := i) (by omega) (by omega)
        have b2 := Wf_sh hg (s := g (188 + 5 * i)) (by omega) (by omega)
        refine lv_aload_n hx hb dX7_coverOf_21 rfl (lv_at hl 2 rfl) ?_
        refine lv_aload_n hx hb dX7_coverOf_22 rfl (lv_at hl 2 rfl) ?_
        refine lv_iload hx hb dX7_coverOf_23 (lv_at hl 0 rfl) ?_
        refine lv_iconst (v := iI (0)) hx hb dX7_coverOf_25 rfl ?_
        refine CR_callV (As := [.int (iI (i)), .int (iI (0))]) (rest := [.ref (q 36)]) ⟨hx, hb, hml, hown, hts⟩ (c_X7_its hw (by omega) (by omega)) (cwV 2 hts gX7_coverOf_X7_its rfl rfl rfl (by decide +kernel) ⟨Nat.le_of_ble_eq_true rfl, Nat.le_of_ble_eq_true rfl⟩) (q0 := k36) h36 rfl rfl hK hNW hP rfl hl.1 rfl (Nat.le_of_ble_eq_true rfl) dX7_coverOf_26 ⟨Nat.zero_le _, Nat.zero_le _⟩ ?_
        refine W_wen (y := iI (g (188 + 5 * i))) (congrArg iI (congrArg g (by omega))) ?_
        refine lv_iconst (v := iI (0)) hx hb dX7_coverOf_29 rfl ?_
        refine CR_callV (As := [.int (iI (g (188 + 5 * i))), .int (iI (0))]) (rest := []) ⟨hx, hb, hml, hown, hts⟩ (c_X7_duty hw (by omega) (by omega)) (cwV 2 hts gX7_coverOf_X7_duty rfl rfl rfl (by decide +kernel) ⟨Nat.le_of_ble_eq_true rfl, Nat.le_of_ble_eq_true rfl⟩) (q0 := k36) h36 rfl rfl hK hNW hP rfl hl.1 rfl (Nat.le_of_ble_eq_true rfl) dX7_coverOf_30 ⟨Nat.zero_le _, Nat.zero_le _⟩ ?_
        refine W_wen (y := iI (g (148 + 5 * (g (188 + 5 * i))))) (congrArg iI (congrArg g (by omega))) ?_
        refine lv_iload_n hx hb dX7_coverOf_33 rfl (lv_at hl 3 rfl) ?_
        refine j_icmp_ne (tgt := 50) hx hb dX7_coverOf_34 rfl ⟨by omega, by omega⟩ ⟨by omega, by omega⟩ (fun c34 => ?_) (fun c34 => ?_)
        · skip
          refine j_iinc (k := 0) (lv' := [(4, .int (iI (i + 1))), (3, .int (iI (r))), (0, .ref (q 36)), (1, .int (iI (pp))), (2, .int (iI (tt)))]) hx hb dX7_coverOf_50 hl rfl (by decide) rfl (fun ls hl => ?_)
          refine lv_goto (tgt := 10) hx hb dX7_coverOf_53 rfl ?_
          exact ih10 (i + 1) r ls (by omega) (by rw [smI_s _ (by omega), h2]; unfold pq; (rw [bI_f (fun h => c34 h.1)]; omega)) (by omega) (lv_sub hl [0, 1, 2, 3, 4] rfl)
        · skip
          refine lv_aload_n hx hb dX7_coverOf_37 rfl (lv_at hl 2 rfl) ?_
          refine lv_iload hx hb dX7_coverOf_38 (lv_at hl 0 rfl) ?_
          refine lv_iload_n hx hb dX7_coverOf_40 rfl (lv_at hl 4 rfl) ?_
          refine CR_callV (As := [.int (iI (i)), .int (iI (tt))]) (rest := []) ⟨hx, hb, hml, hown, hts⟩ (c_X7_isPausing hw hg (by omega) (by omega)) (cwV 2 hts gX7_coverOf_X7_isPausing rfl rfl rfl (by decide +kernel) ⟨Nat.le_of_ble_eq_true rfl, Nat.le_of_ble_eq_true rfl⟩) (q0 := k36) h36 rfl rfl hK hNW hP rfl hl.1 rfl (Nat.le_of_ble_eq_true rfl) dX7_coverOf_41 ⟨Nat.zero_le _, Nat.zero_le _⟩ ?_
          refine j_ifeqB (tgt := 50) hx hb dX7_coverOf_44 rfl (fun c44 => ?_) (fun c44 => ?_)
          · skip
            refine j_iinc (k := 0) (lv' := [(4, .int (iI (i + 1))), (3, .int (iI (r))), (0, .ref (q 36)), (1, .int (iI (pp))), (2, .int (iI (tt)))]) hx hb dX7_coverOf_50 hl rfl (by decide) rfl (fun ls hl => ?_)
            refine lv_goto (tgt := 10) hx hb dX7_coverOf_53 rfl ?_
            exact ih10 (i + 1) r ls (by omega) (by rw [smI_s _ (by omega), h2]; unfold pq; first | (rw [bI_t ⟨c34, c44⟩]; omega) | (rw [bI_f (fun h => c44 h.2)]; omega) | (rw [bI_f (fun h => c34 h.1)]; omega)) (by omega) (lv_sub hl [0, 1, 2, 3, 4] rfl)
          · skip
            refine j_iinc (k := 1) (lv' := [(3, .int (iI (r + (-1)))), (4, .int (iI (i))), (0, .ref (q 36)), (1, .int (iI (pp))), (2, .int (iI (tt)))]) hx hb dX7_coverOf_47 hl rfl (by decide) rfl (fun ls hl => ?_)
            refine j_iinc (k := 1) (lv' := [(4, .int (iI (i + 1))), (3, .int (iI (r + (-1)))), (0, .ref (q 36)), (1, .int (iI (pp))), (2, .int (iI (tt)))]) hx hb dX7_coverOf_50 hl rfl (by decide) rfl (fun ls hl => ?_)
            refine lv_goto (tgt := 10) hx hb dX7_coverOf_53 rfl ?_
            exact ih10 (i + 1) (r + (-1)) ls (by omega) (by rw [smI_s _ (by omega), h2]; unfold pq; first | (rw [bI_t ⟨c34, c44⟩]; omega) | (rw [bI_f (fun h => c44 h.2)]; omega) | (rw [bI_f (fun h => c34 h.1)]; omega)) (by omega) (lv_sub hl [0, 1, 2, 3, 4] rfl)
  exact L10 _ 0 (onD g pp tt) ls (by omega) (by rw [smI_0]; omega) (Nat.lt_succ_self _) (lv_sub hl [0, 1, 2, 3, 4] rfl)

set_option maxHeartbeats 4000000 in
set_option maxRecDepth 100000 in
theorem c_X7_shortOf {l : Launch} {D : va_G} {C : Nat → ClassId} {q : Nat → Nat} {w : va_W} {g : Int → Int} (hw : MN q C w g) (hg : Wf g) {pp tt : Int} (hp : 0 ≤ pp ∧ pp < 3) (ht : 0 ≤ tt ∧ tt < 48) : CR l yX7_shortOf wsX7_shortOf 4 89 D C [.ref (q 36), .int (iI (pp)), .int (iI (tt))] (w) (.int (iI (sh g pp tt))) := by
  obtain ⟨k36, k38, fs, h36, f11, h38⟩ := id hw
  refine CR_of (cc := cX7_shortOf) (maxL := 4) (by decide) rfl (Nat.le_of_ble_eq_true rfl) ?_
  intro p e s m below meth c Q ls hx hb hml hown hts hK hNW hl hP hret
  have hl : lv_has ls 4 [(0, .ref (q 36)), (1, .int (iI (pp))), (2, .int (iI (tt)))] := hl
  have b := Wf_needP hg hp.1 hp.2 ht.1 ht.2
  have b2 := cov_rng hg pp tt
  refine lv_aload_n hx hb dX7_shortOf_0 rfl (lv_at hl 0 rfl) ?_
  refine lv_iload_n hx hb dX7_shortOf_1 rfl (lv_at hl 1 rfl) ?_
  refine lv_iload_n hx hb dX7_shortOf_2 rfl (lv_at hl 2 rfl) ?_
  refine CR_callV (As := [.int (iI (pp)), .int (iI (tt))]) (rest := []) ⟨hx, hb, hml, hown, hts⟩ (c_X7_needOf hw (by omega) (by omega)) (cwV 2 hts gX7_shortOf_X7_needOf rfl rfl rfl (by decide +kernel) ⟨Nat.le_of_ble_eq_true rfl, Nat.le_of_ble_eq_true rfl⟩) (q0 := k36) h36 rfl rfl hK hNW hP rfl hl.1 rfl (Nat.le_of_ble_eq_true rfl) dX7_shortOf_3 ⟨Nat.zero_le _, Nat.zero_le _⟩ ?_
  refine lv_aload_n hx hb dX7_shortOf_6 rfl (lv_at hl 0 rfl) ?_
  refine lv_iload_n hx hb dX7_shortOf_7 rfl (lv_at hl 1 rfl) ?_
  refine lv_iload_n hx hb dX7_shortOf_8 rfl (lv_at hl 2 rfl) ?_
  refine CR_callV (As := [.int (iI (pp)), .int (iI (tt))]) (rest := [.int (iI (g (4 + 48 * pp + tt)))]) ⟨hx, hb, hml, hown, hts⟩ (c_X7_coverOf hw hg (by omega) (by omega)) (cwV 2 hts gX7_shortOf_X7_coverOf rfl rfl rfl (by decide +kernel) ⟨Nat.le_of_ble_eq_true rfl, Nat.le_of_ble_eq_true rfl⟩) (q0 := k36) h36 rfl rfl hK hNW hP rfl hl.1 rfl (Nat.le_of_ble_eq_true rfl) dX7_shortOf_9 ⟨Nat.zero_le _, Nat.zero_le _⟩ ?_
  refine j_isub hx hb dX7_shortOf_12 ?_
  refine lv_istore_n (lv' := [(3, .int (iI ((g (4 + 48 * pp + tt)) - (cov g pp tt)))), (0, .ref (q 36)), (1, .int (iI (pp))), (2, .int (iI (tt)))]) hx hb dX7_shortOf_13 rfl hl (by decide) rfl (fun ls hl => ?_)
  refine lv_iload_n hx hb dX7_shortOf_14 rfl (lv_at hl 0 rfl) ?_
  refine j_if_ge (tgt := 22) hx hb dX7_shortOf_15 rfl ⟨by omega, by omega⟩ (fun c15 => ?_) (fun c15 => ?_)
  · skip
    refine lv_iload_n hx hb dX7_shortOf_22 rfl (lv_at hl 0 rfl) ?_
    exact hret ls 23 _ dX7_shortOf_23 (congrArg iI (by unfold sh; omega))
  · skip
    refine lv_iconst (v := iI (0)) hx hb dX7_shortOf_18 rfl ?_
    refine lv_goto (tgt := 23) hx hb dX7_shortOf_19 rfl ?_
    exact hret ls 23 _ dX7_shortOf_23 (congrArg iI (by unfold sh; omega))

set_option maxHeartbeats 4000000 in
set_option maxRecDepth 100000 in
theorem c_X7_shortIn {l : Launch} {D : va_G} {C : Nat → ClassId} {q : Nat → Nat} {w : va_W} {g : Int → Int} (hw : MN q C w g) (hg : Wf g) {tt : Int} (ht : 0 ≤ tt ∧ tt < 48) : CR l yX7_shortIn wsX7_shortIn 5 112 D C [.ref (q 36), .int (iI (tt))] (w) (.int (iI (shI g tt))) := by
  obtain ⟨k36, k38, fs, h36, f11, h38⟩ := id hw
  refine CR_of (cc := cX7_shortIn) (maxL := 4) (by decide) rfl (Nat.le_of_ble_eq_true rfl) ?_
  intro p e s m below meth c Q ls hx hb hml hown hts hK hNW hl hP hret
  have hl : lv_has ls 4 [(0, .ref (q 36)), (1, .int (iI (tt)))] := hl
  have n := Wf_n hg
  refine lv_iconst (v := iI (0)) hx hb dX7_shortIn_0 rfl ?_
  refine lv_istore_n (lv' := [(2, .int (iI (0))), (0, .ref (q 36)), (1, .int (iI (tt)))]) hx hb dX7_shortIn_1 rfl hl (by decide) rfl (fun ls hl => ?_)
  refine lv_iconst (v := iI (0)) hx hb dX7_shortIn_2 rfl ?_
  refine lv_istore_n (lv' := [(3, .int (iI (0))), (2, .int (iI (0))), (0, .ref (q 36)), (1, .int (iI (tt)))]) hx hb dX7_shortIn_3 rfl hl (by decide) rfl (fun ls hl => ?_)
  have L4 : ∀ (n : Nat) (i : Int) (r : Int) (ls : Array Slot), (0 ≤ i ∧ i ≤ g 0) → (r = smI (fun p => sh g p tt) i) → ((g 0 - i).toNat < n) → (lv_has ls 4 [(3, .int (iI (i))), (2, .int (iI (r))), (0, .ref (q 36)), (1, .int (iI (tt)))]) → W p l e (rmN 5 112) s m ([.ref (q 36), .int (iI (tt))] : List Value).toArray below meth c s.heap [] 0 0 Q (F0 m 4 ls []) := by
    intro n
    induction n with
    | zero => intro i r ls h1 h2 hn; exact absurd hn (Nat.not_lt_zero _)
    | succ n ih4 =>
      intro i r ls h1 h2 hn hl
      have hn4 := hn
      refine lv_iload_n hx hb dX7_shortIn_4 rfl (lv_at hl 0 rfl) ?_
      refine lv_aload_n hx hb dX7_shortIn_5 rfl (lv_at hl 2 rfl) ?_
      refine va_get (D := D) (ci := 7) (v := .ref (q 38)) (C := RX7) (T := TX7) (N := 23) hx hb hts (by decide +kernel) hown hK hP k36 h36 rfl 11 (by decide) (hts (.fieldLink RX7 74 "BreakSetterModel" "now" "[I") (by decide +kernel)) (fun _ h9 => h9) f11 dX7_shortIn_6 ?_
      refine lv_iconst (v := iI (0)) hx hb dX7_shortIn_9 rfl ?_
      refine j_iald hx hb hK hP k38 1 h38 rfl ⟨by omega, by omega⟩ (Nat.le_of_ble_eq_true rfl) dX7_shortIn_10 ?_
      refine j_icmp_ge (tgt := 29) hx hb dX7_shortIn_11 rfl ⟨by omega, by omega⟩ ⟨by omega, by omega⟩ (fun c11 => ?_) (fun c11 => ?_)
      · skip
        refine lv_iload_n hx hb dX7_shortIn_29 rfl (lv_at hl 1 rfl) ?_
        exact hret ls 30 _ dX7_shortIn_30 (by rw [h2, show i = g 0 by omega]; rfl)
      · skip
        refine lv_iload_n hx hb dX7_shortIn_14 rfl (lv_at hl 1 rfl) ?_
        refine lv_aload_n hx hb dX7_shortIn_15 rfl (lv_at hl 2 rfl) ?_
        refine lv_iload_n hx hb dX7_shortIn_16 rfl (lv_at hl 0 rfl) ?_
        refine lv_iload_n hx hb dX7_shortIn_17 rfl (lv_at hl 3 rfl) ?_
        refine CR_callV (As := [.int (iI (i)), .int (iI (tt))]) (rest := [.int (iI (r))]) ⟨hx, hb, hml, hown, hts⟩ (c_X7_shortOf hw hg (by omega) (by omega)) (cwV 2 hts gX7_shortIn_X7_shortOf rfl rfl rfl (by decide +kernel) ⟨Nat.le_of_ble_eq_true rfl, Nat.le_of_ble_eq_true rfl⟩) (q0 := k36) h36 rfl rfl hK hNW hP rfl hl.1 rfl (Nat.le_of_ble_eq_true rfl) dX7_shortIn_18 ⟨Nat.zero_le _, Nat.zero_le _⟩ ?_
        refine j_iadd hx hb dX7_shortIn_21 ?_
        refine lv_istore_n (lv' := [(2, .int (iI (r + (sh g i tt)))), (3, .int (iI (i))), (0, .ref (q 36)), (1, .int (iI (tt)))]) hx hb dX7_shortIn_22 rfl hl (by decide) rfl (fun ls hl => ?_)
        refine j_iinc (k := 1) (lv' := [(3, .int (iI (i + 1))), (2, .int (iI (r + (sh g i tt)))), (0, .ref (q 36)), (1, .int (iI (tt)))]) hx hb dX7_shortIn_23 hl rfl (by decide) rfl (fun ls hl => ?_)
        refine lv_goto (tgt := 4) hx hb dX7_shortIn_26 rfl ?_
        exact ih4 (i + 1) (r + (sh g i tt)) ls (by omega) (by rw [smI_s _ (by omega), ← h2]) (by omega) (lv_sub hl [0, 1, 2, 3] rfl)
  exact L4 _ 0 0 ls (by omega) rfl (Nat.lt_succ_self _) (lv_sub hl [0, 1, 2, 3] rfl)

set_option maxHeartbeats 4000000 in
set_option maxRecDepth 100000 in
theorem c_X7_shortfall {l : Launch} {D : va_G} {C : Nat → ClassId} {q : Nat → Nat} {w : va_W} {g : Int → Int} (hw : MN q C w g) (hg : Wf g) : CR l yX7_shortfall wsX7_shortfall 6 135 D C [.ref (q 36)] (w) (.int (iI (SF g))) := by
  obtain ⟨k36, k38, fs, h36, f11, h38⟩ := id hw
  refine CR_of (cc := cX7_shortfall) (maxL := 3) (by decide) rfl (Nat.le_of_ble_eq_true rfl) ?_
  intro p e s m below meth c Q ls hx hb hml hown hts hK hNW hl hP hret
  have hl : lv_has ls 3 [(0, .ref (q 36))] := hl
  refine lv_iconst (v := iI (0)) hx hb dX7_shortfall_0 rfl ?_
  refine lv_istore_n (lv' := [(1, .int (iI (0))), (0, .ref (q 36))]) hx hb dX7_shortfall_1 rfl hl (by decide) rfl (fun ls hl => ?_)
  refine lv_iconst (v := iI (0)) hx hb dX7_shortfall_2 rfl ?_
  refine lv_istore_n (lv' := [(2, .int (iI (0))), (1, .int (iI (0))), (0, .ref (q 36))]) hx hb dX7_shortfall_3 rfl hl (by decide) rfl (fun ls hl => ?_)
  have L4 : ∀ (n : Nat) (i : Int) (r : Int) (ls : Array Slot), (0 ≤ i ∧ i ≤ 48) → (r = smI (shI g) i) → ((48 - i).toNat < n) → (lv_has ls 3 [(2, .int (iI (i))), (1, .int (iI (r))), (0, .ref (q 36))]) → W p l e (rmN 6 135) s m ([.ref (q 36)] : List Value).toArray below meth c s.heap [] 0 0 Q (F0 m 4 ls []) := by
    intro n
    induction n with
    | zero => intro i r ls h1 h2 hn; exact absurd hn (Nat.not_lt_zero _)
    | succ n ih4 =>
      intro i r ls h1 h2 hn hl
      have hn4 := hn
      refine lv_iload_n hx hb dX7_shortfall_4 rfl (lv_at hl 0 rfl) ?_
      refine lv_bipush (v := iI (48)) hx hb dX7_shortfall_5 (by decide) ?_
      refine j_icmp_ge (tgt := 24) hx hb dX7_shortfall_7 rfl ⟨by omega, by omega⟩ ⟨by decide, by decide⟩ (fun c7 => ?_) (fun c7 => ?_)
      · skip
        refine lv_iload_n hx hb dX7_shortfall_24 rfl (lv_at hl 1 rfl) ?_
        exact hret ls 25 _ dX7_shortfall_25 (by rw [h2, show i = 48 by omega]; rfl)
      · skip
        refine lv_iload_n hx hb dX7_shortfall_10 rfl (lv_at hl 1 rfl) ?_
        refine lv_aload_n hx hb dX7_shortfall_11 rfl (lv_at hl 2 rfl) ?_
        refine lv_iload_n hx hb dX7_shortfall_12 rfl (lv_at hl 0 rfl) ?_
        refine CR_callV (As := [.int (iI (i))]) (rest := [.int (iI (r))]) ⟨hx, hb, hml, hown, hts⟩ (c_X7_shortIn hw hg (by omega)) (cwV 1 hts gX7_shortfall_X7_shortIn rfl rfl rfl (by decide +kernel) ⟨Nat.le_of_ble_eq_true rfl, Nat.le_of_ble_eq_true rfl⟩) (q0 := k36) h36 rfl rfl hK hNW hP rfl hl.1 rfl (Nat.le_of_ble_eq_true rfl) dX7_shortfall_13 ⟨Nat.zero_le _, Nat.zero_le _⟩ ?_
        refine j_iadd hx hb dX7_shortfall_16 ?_
        refine lv_istore_n (lv' := [(1, .int (iI (r + (shI g i)))), (2, .int (iI (i))), (0, .ref (q 36))]) hx hb dX7_shortfall_17 rfl hl (by decide) rfl (fun ls hl => ?_)
        refine j_iinc (k := 1) (lv' := [(2, .int (iI (i + 1))), (1, .int (iI (r + (shI g i)))), (0, .ref (q 36))]) hx hb dX7_shortfall_18 hl rfl (by decide) rfl (fun ls hl => ?_)
        refine lv_goto (tgt := 4) hx hb dX7_shortfall_21 rfl ?_
        exact ih4 (i + 1) (r + (shI g i)) ls (by omega) (by rw [smI_s _ (by omega), ← h2]) (by omega) (lv_sub hl [0, 1, 2] rfl)
  exact L4 _ 0 0 ls (by omega) rfl (Nat.lt_succ_self _) (lv_sub hl [0, 1, 2] rfl)

set_option maxHeartbeats 4000000 in
set_option maxRecDepth 100000 in
theorem c_X7_whyNot {l : Launch} {D : va_G} {C : Nat → ClassId} {q : Nat → Nat} {w : va_W} {g : Int → Int} (hw : MN q C w g) (hg : Wf g) {kk tt : Int} (hk : 0 ≤ kk ∧ kk < g 3) (ht : 0 ≤ tt ∧ tt < 48) : CR l yX7_whyNot wsX7_whyNot 2 43 D C [.ref (q 36), .int (iI (kk)), .int (iI (tt))] (w) (.int (iI (wy g kk tt))) := by
  obtain ⟨k36, k38, fs, h36, f11, h38⟩ := id hw
  refine CR_of (cc := cX7_whyNot) (maxL := 4) (by decide) rfl (Nat.le_of_ble_eq_true rfl) ?_
  intro p e s m below meth c Q ls hx hb hml hown hts hK hNW hl hP hret
  have hl : lv_has ls 4 [(0, .ref (q 36)), (1, .int (iI (kk))), (2, .int (iI (tt)))] := hl
  have n := Wf_n hg
  have b := Wf_p hg hk.1 hk.2
  refine lv_iload_n hx hb dX7_whyNot_0 rfl (lv_at hl 2 rfl) ?_
  refine lv_aload_n hx hb dX7_whyNot_1 rfl (lv_at hl 0 rfl) ?_
  refine lv_iload_n hx hb dX7_whyNot_2 rfl (lv_at hl 1 rfl) ?_
  refine lv_iconst (v := iI (2)) hx hb dX7_whyNot_3 rfl ?_
  refine CR_callV (As := [.int (iI (kk)), .int (iI (2))]) (rest := [.int (iI (tt))]) ⟨hx, hb, hml, hown, hts⟩ (c_X7_its hw (by omega) (by omega)) (cwV 2 hts gX7_whyNot_X7_its rfl rfl rfl (by decide +kernel) ⟨Nat.le_of_ble_eq_true rfl, Nat.le_of_ble_eq_true rfl⟩) (q0 := k36) h36 rfl rfl hK hNW hP rfl hl.1 rfl (Nat.le_of_ble_eq_true rfl) dX7_whyNot_4 ⟨Nat.zero_le _, Nat.zero_le _⟩ ?_
  refine W_wen (y := iI (g (190 + 5 * kk))) (congrArg iI (congrArg g (by omega))) ?_
  refine lv_aload_n hx hb dX7_whyNot_7 rfl (lv_at hl 0 rfl) ?_
  refine lv_iload_n hx hb dX7_whyNot_8 rfl (lv_at hl 1 rfl) ?_
  refine lv_iconst (v := iI (3)) hx hb dX7_whyNot_9 rfl ?_
  refine CR_callV (As := [.int (iI (kk)), .int (iI (3))]) (rest := [.int (iI (g (190 + 5 * kk))), .int (iI (tt))]) ⟨hx, hb, hml, hown, hts⟩ (c_X7_its hw (by omega) (by omega)) (cwV 2 hts gX7_whyNot_X7_its rfl rfl rfl (by decide +kernel) ⟨Nat.le_of_ble_eq_true rfl, Nat.le_of_ble_eq_true rfl⟩) (q0 := k36) h36 rfl rfl hK hNW hP rfl hl.1 rfl (Nat.le_of_ble_eq_true rfl) dX7_whyNot_10 ⟨Nat.zero_le _, Nat.zero_le _⟩ ?_
  refine W_wen (y := iI (g (191 + 5 * kk))) (congrArg iI (congrArg g (by omega))) ?_
  refine CR_callS (As := [.int (iI (tt)), .int (iI (g (190 + 5 * kk))), .int (iI (g (191 + 5 * kk)))]) (rest := []) ⟨hx, hb, hml, hown, hts⟩ (c_X7_isIn ⟨by omega, by omega⟩ ⟨by omega, by omega⟩ ⟨by omega, by omega⟩) (cwS 3 hts gX7_whyNot_X7_isIn rfl rfl rfl (by decide +kernel) ⟨Nat.le_of_ble_eq_true rfl, Nat.le_of_ble_eq_true rfl⟩) hK hNW hP rfl hl.1 rfl (Nat.le_of_ble_eq_true rfl) dX7_whyNot_13 ⟨Nat.zero_le _, Nat.zero_le _⟩ ?_
  refine j_ifneB (tgt := 21) hx hb dX7_whyNot_16 rfl (fun c16 => ?_) (fun c16 => ?_)
  · skip
    refine lv_iconst (v := iI (0)) hx hb dX7_whyNot_21 rfl ?_
    refine lv_istore_n (lv' := [(3, .int (iI (0))), (0, .ref (q 36)), (1, .int (iI (kk))), (2, .int (iI (tt)))]) hx hb dX7_whyNot_22 rfl hl (by decide) rfl (fun ls hl => ?_)
    have L23 : ∀ (n : Nat) (i : Int) (ls : Array Slot), (0 ≤ i ∧ i ≤ g 3) → (∀ x : Int, 0 ≤ x → x < i → ¬ tch g kk tt x) → ((g 3 - i).toNat < n) → (lv_has ls 4 [(3, .int (iI (i))), (0, .ref (q 36)), (1, .int (iI (kk))), (2, .int (iI (tt)))]) → W p l e (rmN 2 43) s m ([.ref (q 36), .int (iI (kk)), .int (iI (tt))] : List Value).toArray below meth c s.heap [] 0 0 Q (F0 m 23 ls []) := by
      intro n
      induction n with
      | zero => intro i ls h1 h2 hn; exact absurd hn (Nat.not_lt_zero _)
      | succ n ih23 =>
        intro i ls h1 h2 hn hl
        have hn23 := hn
        refine lv_iload_n hx hb dX7_whyNot_23 rfl (lv_at hl 0 rfl) ?_
        refine lv_aload_n hx hb dX7_whyNot_24 rfl (lv_at hl 1 rfl) ?_
        refine va_get (D := D) (ci := 7) (v := .ref (q 38)) (C := RX7) (T := TX7) (N := 23) hx hb hts (by decide +kernel) hown hK hP k36 h36 rfl 11 (by decide) (hts (.fieldLink RX7 74 "BreakSetterModel" "now" "[I") (by decide +kernel)) (fun _ h9 => h9) f11 dX7_whyNot_25 ?_
        refine lv_iconst (v := iI (3)) hx hb dX7_whyNot_28 rfl ?_
        refine j_iald hx hb hK hP k38 1 h38 rfl ⟨by omega, by omega⟩ (Nat.le_of_ble_eq_true rfl) dX7_whyNot_29 ?_
        refine j_icmp_ge (tgt := 105) hx hb dX7_whyNot_30 rfl ⟨by omega, by omega⟩ ⟨by omega, by omega⟩ (fun c30 => ?_) (fun c30 => ?_)
        · skip
          refine lv_iconst (v := iI (0)) hx hb dX7_whyNot_105 rfl ?_
          exact hret ls 106 _ dX7_whyNot_106 (by rw [wy_0 c16 (fun ⟨x, a, b, h⟩ => h2 x a (by omega) h)])
        · skip
          have b3 := Wf_p hg (k := i) (by omega) (by omega)
          refine lv_iload_n hx hb dX7_whyNot_33 rfl (lv_at hl 0 rfl) ?_
          refine lv_iload_n hx hb dX7_whyNot_34 rfl (lv_at hl 2 rfl) ?_
          refine j_icmp_eq (tgt := 99) hx hb dX7_whyNot_35 rfl ⟨by omega, by omega⟩ ⟨by omega, by omega⟩ (fun c35 => ?_) (fun c35 => ?_)
          · skip
            refine j_iinc (k := 0) (lv' := [(3, .int (iI (i + 1))), (0, .ref (q 36)), (1, .int (iI (kk))), (2, .int (iI (tt)))]) hx hb dX7_whyNot_99 hl rfl (by decide) rfl (fun ls hl => ?_)
            refine lv_goto (tgt := 23) hx hb dX7_whyNot_102 rfl ?_
            exact ih23 (i + 1) ls (by omega) (fa_step h2 (fun hh => by obtain ⟨q1, q2, q3, q4, q5⟩ := hh; omega)) (by omega) (lv_sub hl [0, 1, 2, 3] rfl)
          · skip
            refine lv_aload_n hx hb dX7_whyNot_38 rfl (lv_at hl 1 rfl) ?_
            refine lv_iload_n hx hb dX7_whyNot_39 rfl (lv_at hl 0 rfl) ?_
            refine lv_iconst (v := iI (0)) hx hb dX7_whyNot_40 rfl ?_
            refine CR_callV (As := [.int (iI (i)), .int (iI (0))]) (rest := []) ⟨hx, hb, hml, hown, hts⟩ (c_X7_its hw (by omega) (by omega)) (cwV 2 hts gX7_whyNot_X7_its rfl rfl rfl (by decide +kernel) ⟨Nat.le_of_ble_eq_true rfl, Nat.le_of_ble_eq_true rfl⟩) (q0 := k36) h36 rfl rfl hK hNW hP rfl hl.1 rfl (Nat.le_of_ble_eq_true rfl) dX7_whyNot_41 ⟨Nat.zero_le _, Nat.zero_le _⟩ ?_
            refine W_wen (y := iI (g (188 + 5 * i))) (congrArg iI (congrArg g (by omega))) ?_
            refine lv_aload_n hx hb dX7_whyNot_44 rfl (lv_at hl 1 rfl) ?_
            refine lv_iload_n hx hb dX7_whyNot_45 rfl (lv_at hl 2 rfl) ?_
            refine lv_iconst (v := iI (0)) hx hb dX7_whyNot_46 rfl ?_
            refine CR_callV (As := [.int (iI (kk)), .int (iI (0))]) (rest := [.int (iI (g (188 + 5 * i)))]) ⟨hx, hb, hml, hown, hts⟩ (c_X7_its hw (by omega) (by omega)) (cwV 2 hts gX7_whyNot_X7_its rfl rfl rfl (by decide +kernel) ⟨Nat.le_of_ble_eq_true rfl, Nat.le_of_ble_eq_true rfl⟩) (q0 := k36) h36 rfl rfl hK hNW hP rfl hl.1 rfl (Nat.le_of_ble_eq_true rfl) dX7_whyNot_47 ⟨Nat.zero_le _, Nat.zero_le _⟩ ?_
            refine W_wen (y := iI (g (188 + 5 * kk))) (congrArg iI (congrArg g (by omega))) ?_
            refine j_icmp_ne (tgt := 99) hx hb dX7_whyNot_50 rfl ⟨by omega, by omega⟩ ⟨by omega, by omega⟩ (fun c50 => ?_) (fun c50 => ?_)
            · skip
              refine j_iinc (k := 0) (lv' := [(3, .int (iI (i + 1))), (0, .ref (q 36)), (1, .int (iI (kk))), (2, .int (iI (tt)))]) hx hb dX7_whyNot_99 hl rfl (by decide) rfl (fun ls hl => ?_)
              refine lv_goto (tgt := 23) hx hb dX7_whyNot_102 rfl ?_
              exact ih23 (i + 1) ls (by omega) (fa_step h2 (fun hh => by obtain ⟨q1, q2, q3, q4, q5⟩ := hh; omega)) (by omega) (lv_sub hl [0, 1, 2, 3] rfl)
            · skip
              refine lv_aload_n hx hb dX7_whyNot_53 rfl (lv_at hl 1 rfl) ?_
              refine lv_iload_n hx hb dX7_whyNot_54 rfl (lv_at hl 0 rfl) ?_
              refine CR_callV (As := [.int (iI (i))]) (rest := []) ⟨hx, hb, hml, hown, hts⟩ (c_X7_placeOf hw (by omega) (by omega)) (cwV 1 hts gX7_whyNot_X7_placeOf rfl rfl rfl (by decide +kernel) ⟨Nat.le_of_ble_eq_true rfl, Nat.le_of_ble_eq_true rfl⟩) (q0 := k36) h36 rfl rfl hK hNW hP rfl hl.1 rfl (Nat.le_of_ble_eq_true rfl) dX7_whyNot_55 ⟨Nat.zero_le _, Nat.zero_le _⟩ ?_
              refine lv_iconst (v := iI (-1)) hx hb dX7_whyNot_58 rfl ?_
              refine j_icmp_ne (tgt := 65) hx hb dX7_whyNot_59 rfl ⟨by omega, by omega⟩ ⟨by decide, by decide⟩ (fun c59 => ?_) (fun c59 => ?_)
              · skip
                refine lv_iload_n hx hb dX7_whyNot_65 rfl (lv_at hl 3 rfl) ?_
                refine lv_aload_n hx hb dX7_whyNot_66 rfl (lv_at hl 1 rfl) ?_
                refine lv_iload_n hx hb dX7_whyNot_67 rfl (lv_at hl 0 rfl) ?_
                refine CR_callV (As := [.int (iI (i))]) (rest := [.int (iI (tt))]) ⟨hx, hb, hml, hown, hts⟩ (c_X7_placeOf hw (by omega) (by omega)) (cwV 1 hts gX7_whyNot_X7_placeOf rfl rfl rfl (by decide +kernel) ⟨Nat.le_of_ble_eq_true rfl, Nat.le_of_ble_eq_true rfl⟩) (q0 := k36) h36 rfl rfl hK hNW hP rfl hl.1 rfl (Nat.le_of_ble_eq_true rfl) dX7_whyNot_68 ⟨Nat.zero_le _, Nat.zero_le _⟩ ?_
                refine lv_aload_n hx hb dX7_whyNot_71 rfl (lv_at hl 1 rfl) ?_
                refine lv_iload_n hx hb dX7_whyNot_72 rfl (lv_at hl 0 rfl) ?_
                refine lv_iconst (v := iI (1)) hx hb dX7_whyNot_73 rfl ?_
                refine CR_callV (As := [.int (iI (i)), .int (iI (1))]) (rest := [.int (iI (g (192 + 5 * i) - 1)), .int (iI (tt))]) ⟨hx, hb, hml, hown, hts⟩ (c_X7_its hw (by omega) (by omega)) (cwV 2 hts gX7_whyNot_X7_its rfl rfl rfl (by decide +kernel) ⟨Nat.le_of_ble_eq_true rfl, Nat.le_of_ble_eq_true rfl⟩) (q0 := k36) h36 rfl rfl hK hNW hP rfl hl.1 rfl (Nat.le_of_ble_eq_true rfl) dX7_whyNot_74 ⟨Nat.zero_le _, Nat.zero_le _⟩ ?_
                refine W_wen (y := iI (g (189 + 5 * i))) (congrArg iI (congrArg g (by omega))) ?_
                refine j_iadd hx hb dX7_whyNot_77 ?_
                refine j_icmp_gt (tgt := 99) hx hb dX7_whyNot_78 rfl ⟨by omega, by omega⟩ ⟨by omega, by omega⟩ (fun c78 => ?_) (fun c78 => ?_)
                · skip
                  refine j_iinc (k := 0) (lv' := [(3, .int (iI (i + 1))), (0, .ref (q 36)), (1, .int (iI (kk))), (2, .int (iI (tt)))]) hx hb dX7_whyNot_99 hl rfl (by decide) rfl (fun ls hl => ?_)
                  refine lv_goto (tgt := 23) hx hb dX7_whyNot_102 rfl ?_
                  exact ih23 (i + 1) ls (by omega) (fa_step h2 (fun hh => by obtain ⟨q1, q2, q3, q4, q5⟩ := hh; omega)) (by omega) (lv_sub hl [0, 1, 2, 3] rfl)
                · skip
                  refine lv_aload_n hx hb dX7_whyNot_81 rfl (lv_at hl 1 rfl) ?_
                  refine lv_iload_n hx hb dX7_whyNot_82 rfl (lv_at hl 0 rfl) ?_
                  refine CR_callV (As := [.int (iI (i))]) (rest := []) ⟨hx, hb, hml, hown, hts⟩ (c_X7_placeOf hw (by omega) (by omega)) (cwV 1 hts gX7_whyNot_X7_placeOf rfl rfl rfl (by decide +kernel) ⟨Nat.le_of_ble_eq_true rfl, Nat.le_of_ble_eq_true rfl⟩) (q0 := k36) h36 rfl rfl hK hNW hP rfl hl.1 rfl (Nat.le_of_ble_eq_true rfl) dX7_whyNot_83 ⟨Nat.zero_le _, Nat.zero_le _⟩ ?_
                  refine lv_iload_n hx hb dX7_whyNot_86 rfl (lv_at hl 3 rfl) ?_
                  refine lv_aload_n hx hb dX7_whyNot_87 rfl (lv_at hl 1 rfl) ?_
                  refine lv_iload_n hx hb dX7_whyNot_88 rfl (lv_at hl 2 rfl) ?_
                  refine lv_iconst (v := iI (1)) hx hb dX7_whyNot_89 rfl ?_
                  refine CR_callV (As := [.int (iI (kk)), .int (iI (1))]) (rest := [.int (iI (tt)), .int (iI (g (192 + 5 * i) - 1))]) ⟨hx, hb, hml, hown, hts⟩ (c_X7_its hw (by omega) (by omega)) (cwV 2 hts gX7_whyNot_X7_its rfl rfl rfl (by decide +kernel) ⟨Nat.le_of_ble_eq_true rfl, Nat.le_of_ble_eq_true rfl⟩) (q0 := k36) h36 rfl rfl hK hNW hP rfl hl.1 rfl (Nat.le_of_ble_eq_true rfl) dX7_whyNot_90 ⟨Nat.zero_le _, Nat.zero_le _⟩ ?_
                  refine W_wen (y := iI (g (189 + 5 * kk))) (congrArg iI (congrArg g (by omega))) ?_
                  refine j_iadd hx hb dX7_whyNot_93 ?_
                  refine j_icmp_gt (tgt := 99) hx hb dX7_whyNot_94 rfl ⟨by omega, by omega⟩ ⟨by omega, by omega⟩ (fun c94 => ?_) (fun c94 => ?_)
                  · skip
                    refine j_iinc (k := 0) (lv' := [(3, .int (iI (i + 1))), (0, .ref (q 36)), (1, .int (iI (kk))), (2, .int (iI (tt)))]) hx hb dX7_whyNot_99 hl rfl (by decide) rfl (fun ls hl => ?_)
                    refine lv_goto (tgt := 23) hx hb dX7_whyNot_102 rfl ?_
                    exact ih23 (i + 1) ls (by omega) (fa_step h2 (fun hh => by obtain ⟨q1, q2, q3, q4, q5⟩ := hh; omega)) (by omega) (lv_sub hl [0, 1, 2, 3] rfl)
                  · skip
                    refine lv_iconst (v := iI (2)) hx hb dX7_whyNot_97 rfl ?_
                    exact hret ls 98 _ dX7_whyNot_98 (by rw [wy_2 c16 ⟨i, by omega, by omega, c35, c50, c59, by omega, by omega⟩])
              · skip
                refine lv_goto (tgt := 99) hx hb dX7_whyNot_62 rfl ?_
                refine j_iinc (k := 0) (lv' := [(3, .int (iI (i + 1))), (0, .ref (q 36)), (1, .int (iI (kk))), (2, .int (iI (tt)))]) hx hb dX7_whyNot_99 hl rfl (by decide) rfl (fun ls hl => ?_)
                refine lv_goto (tgt := 23) hx hb dX7_whyNot_102 rfl ?_
                exact ih23 (i + 1) ls (by omega) (fa_step h2 (fun hh => by obtain ⟨q1, q2, q3, q4, q5⟩ := hh; omega)) (by omega) (lv_sub hl [0, 1, 2, 3] rfl)
    exact L23 _ 0 ls (by omega) (fun x a b => absurd b (by omega)) (Nat.lt_succ_self _) (lv_sub hl [0, 1, 2, 3] rfl)
  · skip
    refine lv_iconst (v := iI (1)) hx hb dX7_whyNot_19 rfl ?_
    exact hret ls 20 _ dX7_whyNot_20 (by rw [wy_1 c16])

set_option maxHeartbeats 4000000 in
set_option maxRecDepth 100000 in
theorem c_X7_placed {l : Launch} {D : va_G} {C : Nat → ClassId} {q : Nat → Nat} {w : va_W} {g : Int → Int} (hw : MN q C w g) (hg : Wf g) : CR l yX7_placed wsX7_placed 2 43 D C [.ref (q 36)] (w) (.int (iI (plc g))) := by
  obtain ⟨k36, k38, fs, h36, f11, h38⟩ := id hw
  refine CR_of (cc := cX7_placed) (maxL := 3) (by decide) rfl (Nat.le_of_ble_eq_true rfl) ?_
  intro p e s m below meth c Q ls hx hb hml hown hts hK hNW hl hP hret
  have hl : lv_has ls 3 [(0, .ref (q 36))] := hl
  have n := Wf_n hg
  refine lv_iconst (v := iI (0)) hx hb dX7_placed_0 rfl ?_
  refine lv_istore_n (lv' := [(1, .int (iI (0))), (0, .ref (q 36))]) hx hb dX7_placed_1 rfl hl (by decide) rfl (fun ls hl => ?_)
  refine lv_iconst (v := iI (0)) hx hb dX7_placed_2 rfl ?_
  refine lv_istore_n (lv' := [(2, .int (iI (0))), (1, .int (iI (0))), (0, .ref (q 36))]) hx hb dX7_placed_3 rfl hl (by decide) rfl (fun ls hl => ?_)
  have L4 : ∀ (n : Nat) (i : Int) (r : Int) (ls : Array Slot), (0 ≤ i ∧ i ≤ g 3) → (r = smI (fun k => bI (¬ g (192 + 5 * k) - 1 = -1)) i) → ((g 3 - i).toNat < n) → (lv_has ls 3 [(2, .int (iI (i))), (1, .int (iI (r))), (0, .ref (q 36))]) → W p l e (rmN 2 43) s m ([.ref (q 36)] : List Value).toArray below meth c s.heap [] 0 0 Q (F0 m 4 ls []) := by
    intro n
    induction n with
    | zero => intro i r ls h1 h2 hn; exact absurd hn (Nat.not_lt_zero _)
    | succ n ih4 =>
      intro i r ls h1 h2 hn hl
      have hn4 := hn
      refine lv_iload_n hx hb dX7_placed_4 rfl (lv_at hl 0 rfl) ?_
      refine lv_aload_n hx hb dX7_placed_5 rfl (lv_at hl 2 rfl) ?_
      refine va_get (D := D) (ci := 7) (v := .ref (q 38)) (C := RX7) (T := TX7) (N := 23) hx hb hts (by decide +kernel) hown hK hP k36 h36 rfl 11 (by decide) (hts (.fieldLink RX7 74 "BreakSetterModel" "now" "[I") (by decide +kernel)) (fun _ h9 => h9) f11 dX7_placed_6 ?_
      refine lv_iconst (v := iI (3)) hx hb dX7_placed_9 rfl ?_
      refine j_iald hx hb hK hP k38 1 h38 rfl ⟨by omega, by omega⟩ (Nat.le_of_ble_eq_true rfl) dX7_placed_10 ?_
      refine j_icmp_ge (tgt := 32) hx hb dX7_placed_11 rfl ⟨by omega, by omega⟩ ⟨by omega, by omega⟩ (fun c11 => ?_) (fun c11 => ?_)
      · skip
        refine lv_iload_n hx hb dX7_placed_32 rfl (lv_at hl 1 rfl) ?_
        exact hret ls 33 _ dX7_placed_33 (by rw [h2, show i = g 3 by omega]; rfl)
      · skip
        have b3 := Wf_p hg (k := i) (by omega) (by omega)
        refine lv_aload_n hx hb dX7_placed_14 rfl (lv_at hl 2 rfl) ?_
        refine lv_iload_n hx hb dX7_placed_15 rfl (lv_at hl 0 rfl) ?_
        refine CR_callV (As := [.int (iI (i))]) (rest := []) ⟨hx, hb, hml, hown, hts⟩ (c_X7_placeOf hw (by omega) (by omega)) (cwV 1 hts gX7_placed_X7_placeOf rfl rfl rfl (by decide +kernel) ⟨Nat.le_of_ble_eq_true rfl, Nat.le_of_ble_eq_true rfl⟩) (q0 := k36) h36 rfl rfl hK hNW hP rfl hl.1 rfl (Nat.le_of_ble_eq_true rfl) dX7_placed_16 ⟨Nat.zero_le _, Nat.zero_le _⟩ ?_
        refine lv_iconst (v := iI (-1)) hx hb dX7_placed_19 rfl ?_
        refine j_icmp_eq (tgt := 26) hx hb dX7_placed_20 rfl ⟨by omega, by omega⟩ ⟨by decide, by decide⟩ (fun c20 => ?_) (fun c20 => ?_)
        · skip
          refine j_iinc (k := 0) (lv' := [(2, .int (iI (i + 1))), (1, .int (iI (r))), (0, .ref (q 36))]) hx hb dX7_placed_26 hl rfl (by decide) rfl (fun ls hl => ?_)
          refine lv_goto (tgt := 4) hx hb dX7_placed_29 rfl ?_
          exact ih4 (i + 1) r ls (by omega) (by rw [smI_s _ (by omega), ← h2]; first | (rw [bI_t c20]; done) | (rw [bI_f (fun h => h c20)]; omega)) (by omega) (lv_sub hl [0, 1, 2] rfl)
        · skip
          refine j_iinc (k := 1) (lv' := [(1, .int (iI (r + 1))), (2, .int (iI (i))), (0, .ref (q 36))]) hx hb dX7_placed_23 hl rfl (by decide) rfl (fun ls hl => ?_)
          refine j_iinc (k := 1) (lv' := [(2, .int (iI (i + 1))), (1, .int (iI (r + 1))), (0, .ref (q 36))]) hx hb dX7_placed_26 hl rfl (by decide) rfl (fun ls hl => ?_)
          refine lv_goto (tgt := 4) hx hb dX7_placed_29 rfl ?_
          exact ih4 (i + 1) (r + 1) ls (by omega) (by rw [smI_s _ (by omega), ← h2]; first | (rw [bI_t c20]; done) | (rw [bI_f (fun h => h c20)]; omega)) (by omega) (lv_sub hl [0, 1, 2] rfl)
  exact L4 _ 0 0 ls (by omega) rfl (Nat.lt_succ_self _) (lv_sub hl [0, 1, 2] rfl)
