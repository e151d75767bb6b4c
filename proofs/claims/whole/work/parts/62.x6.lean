set_option maxHeartbeats 4000000 in
set_option maxRecDepth 100000 in
theorem c_X6_shift {SA : Nat → Nat} {l : Launch} (hl0 : l.stackTraces = false) {D : va_G} {C : Nat → ClassId} {q : Nat → Nat} {w : va_W} {g : Int → Int} {lf cn len : Int} (hb9 : BsR q C w g lf cn len) (hg : Wf g) {ss ww : Int} (hs : R32 ss) (hw0 : R32 ww) : CX SA l yX6_shift wsX6_shiftX 6 82 D C [.ref (q 0), .int (iI (ss)), .int (iI (ww))] (w) (shiftF g ss ww) := by
  obtain ⟨⟨⟨⟨k16, ln, nd, h16⟩, ⟨k17, f17, h17, e17⟩, ⟨k18, f18, h18, e18⟩, ⟨k19, f19, h19, e19⟩, ⟨k20, f20, h20, e20⟩, ⟨k21, f21, h21, e21⟩, ⟨k22, f22, h22, e22⟩, ⟨k23, f23, h23, e23⟩, ⟨k24, f24, h24, e24⟩, ⟨k25, f25, h25, e25⟩, ⟨k26, f26, h26, e26⟩, ⟨k27, f27, h27, e27⟩⟩, ⟨k28, h28⟩, ⟨k29, f29, h29, e29⟩, ⟨k30, f30, h30, e30⟩⟩, ⟨k0, h0⟩, ⟨k34, nr, h34⟩, ⟨k1, h1⟩⟩ := id hb9
  refine CX_of hl0 (cc := cX6_shift) (maxL := 3) (by decide) rfl (Nat.le_of_ble_eq_true rfl) rfl (Nat.le_of_ble_eq_true rfl) (Nat.le_of_ble_eq_true rfl) (by decide +kernel) (by decide +kernel) (by decide +kernel) ?_
  intro p e s m below meth c Q ls hx hb hml hown hts hK hNW hE hl hP hret hthr
  have hl : lv_has ls 3 [(0, .ref (q 0)), (1, .int (iI (ss))), (2, .int (iI (ww)))] := hl
  have n := Wf_n hg
  refine lv_aload_n hx hb dX6_shift_0 rfl (lv_at hl 0 rfl) ?_
  refine va_get (D := D) (ci := 6) (v := .ref (q 16)) (C := RX6) (T := TX6) (N := 8) hx hb hts (by decide +kernel) hown hK hP k0 h0 rfl 3 (by decide) (hts (.fieldLink RX6 23 "BreakSetter" "plan" "LBreakSetter$Plan;") (by decide +kernel)) (fun _ h9 => h9) rfl dX6_shift_1 ?_
  refine lv_iload_n hx hb dX6_shift_4 rfl (lv_at hl 1 rfl) ?_
  refine CR_callV (As := [.int (iI (ss))]) (rest := []) ⟨hx, hb, hml, hown, hts⟩ (c_X1_hasShift hb9.1.1 hg hs) (cwV 1 hts gX6_shiftX_X1_hasShift rfl rfl rfl (by decide +kernel) ⟨Nat.le_of_ble_eq_true rfl, Nat.le_of_ble_eq_true rfl⟩) (q0 := k16) h16 rfl rfl hK hNW hP rfl hl.1 rfl (Nat.le_of_ble_eq_true rfl) dX6_shift_5 ⟨Nat.zero_le _, Nat.zero_le _⟩ ?_
  refine j_ifneB (tgt := 21) hx hb dX6_shift_8 rfl (fun c8 => ?_) (fun c8 => ?_)
  · skip
    refine lv_iload_n hx hb dX6_shift_21 rfl (lv_at hl 2 rfl) ?_
    by_cases hsw : 0 ≤ ww ∧ ww ≤ 4
    · skip
      obtain ⟨hsw1, hsw2⟩ := hsw
      rcases (show ww = 0 ∨ ww = 1 ∨ ww = 2 ∨ ww = 3 ∨ ww = 4 by omega) with hsw | hsw | hsw | hsw | hsw
      · skip
        refine j_swIn (k := 0) (off := 34) (tgt := 56) hx hb dX6_shift_22 hsw (by decide) (by decide) rfl rfl ?_
        refine lv_aload_n hx hb dX6_shift_56 rfl (lv_at hl 0 rfl) ?_
        refine va_get (D := D) (ci := 6) (v := .ref (q 16)) (C := RX6) (T := TX6) (N := 8) hx hb hts (by decide +kernel) hown hK hP k0 h0 rfl 3 (by decide) (hts (.fieldLink RX6 23 "BreakSetter" "plan" "LBreakSetter$Plan;") (by decide +kernel)) (fun _ h9 => h9) rfl dX6_shift_57 ?_
        refine va_get (D := D) (ci := 1) (v := .ref (q 19)) (C := RX1) (T := TX1) (N := 17) hx hb hts (by decide +kernel) hown hK hP k16 h16 rfl 8 (by decide) (hts (.fieldLink RX6 127 "BreakSetter$Plan" "shiftPost" "[I") (by decide +kernel)) (fun _ h9 => h9) rfl dX6_shift_60 ?_
        refine lv_iload_n hx hb dX6_shift_63 rfl (lv_at hl 1 rfl) ?_
        refine j_iald hx hb hK hP k19 1 h19 rfl ⟨by omega, by omega⟩ (Nat.le_of_ble_eq_true rfl) dX6_shift_64 ?_
        refine W_wen (y := iI (g (148 + 5 * ss))) (congrArg iI (e19 ss (by omega) (by omega))) ?_
        exact hret ls 65 _ dX6_shift_65 (by unfold shiftF; rw [if_pos ⟨c8, by omega, by omega⟩, if_neg (by omega), show 148 + 5 * ss + ww = 148 + 5 * ss by omega])
      · skip
        refine j_swIn (k := 1) (off := 44) (tgt := 66) hx hb dX6_shift_22 hsw (by decide) (by decide) rfl rfl ?_
        refine lv_aload_n hx hb dX6_shift_66 rfl (lv_at hl 0 rfl) ?_
        refine va_get (D := D) (ci := 6) (v := .ref (q 16)) (C := RX6) (T := TX6) (N := 8) hx hb hts (by decide +kernel) hown hK hP k0 h0 rfl 3 (by decide) (hts (.fieldLink RX6 23 "BreakSetter" "plan" "LBreakSetter$Plan;") (by decide +kernel)) (fun _ h9 => h9) rfl dX6_shift_67 ?_
        refine va_get (D := D) (ci := 1) (v := .ref (q 20)) (C := RX1) (T := TX1) (N := 17) hx hb hts (by decide +kernel) hown hK hP k16 h16 rfl 9 (by decide) (hts (.fieldLink RX6 131 "BreakSetter$Plan" "shiftFrom" "[I") (by decide +kernel)) (fun _ h9 => h9) rfl dX6_shift_70 ?_
        refine lv_iload_n hx hb dX6_shift_73 rfl (lv_at hl 1 rfl) ?_
        refine j_iald hx hb hK hP k20 1 h20 rfl ⟨by omega, by omega⟩ (Nat.le_of_ble_eq_true rfl) dX6_shift_74 ?_
        refine W_wen (y := iI (g (149 + 5 * ss))) (congrArg iI (e20 ss (by omega) (by omega))) ?_
        exact hret ls 75 _ dX6_shift_75 (by unfold shiftF; rw [if_pos ⟨c8, by omega, by omega⟩, if_neg (by omega), show 148 + 5 * ss + ww = 149 + 5 * ss by omega])
      · skip
        refine j_swIn (k := 2) (off := 54) (tgt := 76) hx hb dX6_shift_22 hsw (by decide) (by decide) rfl rfl ?_
        refine lv_aload_n hx hb dX6_shift_76 rfl (lv_at hl 0 rfl) ?_
        refine va_get (D := D) (ci := 6) (v := .ref (q 16)) (C := RX6) (T := TX6) (N := 8) hx hb hts (by decide +kernel) hown hK hP k0 h0 rfl 3 (by decide) (hts (.fieldLink RX6 23 "BreakSetter" "plan" "LBreakSetter$Plan;") (by decide +kernel)) (fun _ h9 => h9) rfl dX6_shift_77 ?_
        refine va_get (D := D) (ci := 1) (v := .ref (q 21)) (C := RX1) (T := TX1) (N := 17) hx hb hts (by decide +kernel) hown hK hP k16 h16 rfl 10 (by decide) (hts (.fieldLink RX6 134 "BreakSetter$Plan" "shiftTo" "[I") (by decide +kernel)) (fun _ h9 => h9) rfl dX6_shift_80 ?_
        refine lv_iload_n hx hb dX6_shift_83 rfl (lv_at hl 1 rfl) ?_
        refine j_iald hx hb hK hP k21 1 h21 rfl ⟨by omega, by omega⟩ (Nat.le_of_ble_eq_true rfl) dX6_shift_84 ?_
        refine W_wen (y := iI (g (150 + 5 * ss))) (congrArg iI (e21 ss (by omega) (by omega))) ?_
        exact hret ls 85 _ dX6_shift_85 (by unfold shiftF; rw [if_pos ⟨c8, by omega, by omega⟩, if_neg (by omega), show 148 + 5 * ss + ww = 150 + 5 * ss by omega])
      · skip
        refine j_swIn (k := 3) (off := 64) (tgt := 86) hx hb dX6_shift_22 hsw (by decide) (by decide) rfl rfl ?_
        refine lv_aload_n hx hb dX6_shift_86 rfl (lv_at hl 0 rfl) ?_
        refine va_get (D := D) (ci := 6) (v := .ref (q 16)) (C := RX6) (T := TX6) (N := 8) hx hb hts (by decide +kernel) hown hK hP k0 h0 rfl 3 (by decide) (hts (.fieldLink RX6 23 "BreakSetter" "plan" "LBreakSetter$Plan;") (by decide +kernel)) (fun _ h9 => h9) rfl dX6_shift_87 ?_
        refine va_get (D := D) (ci := 1) (v := .ref (q 22)) (C := RX1) (T := TX1) (N := 17) hx hb hts (by decide +kernel) hown hK hP k16 h16 rfl 11 (by decide) (hts (.fieldLink RX6 137 "BreakSetter$Plan" "shiftPauses" "[I") (by decide +kernel)) (fun _ h9 => h9) rfl dX6_shift_90 ?_
        refine lv_iload_n hx hb dX6_shift_93 rfl (lv_at hl 1 rfl) ?_
        refine j_iald hx hb hK hP k22 1 h22 rfl ⟨by omega, by omega⟩ (Nat.le_of_ble_eq_true rfl) dX6_shift_94 ?_
        refine W_wen (y := iI (g (151 + 5 * ss))) (congrArg iI (e22 ss (by omega) (by omega))) ?_
        exact hret ls 95 _ dX6_shift_95 (by unfold shiftF; rw [if_pos ⟨c8, by omega, by omega⟩, if_neg (by omega), show 148 + 5 * ss + ww = 151 + 5 * ss by omega])
      · skip
        refine j_swIn (k := 4) (off := 74) (tgt := 96) hx hb dX6_shift_22 hsw (by decide) (by decide) rfl rfl ?_
        refine lv_aload_n hx hb dX6_shift_96 rfl (lv_at hl 0 rfl) ?_
        refine va_get (D := D) (ci := 6) (v := .ref (q 16)) (C := RX6) (T := TX6) (N := 8) hx hb hts (by decide +kernel) hown hK hP k0 h0 rfl 3 (by decide) (hts (.fieldLink RX6 23 "BreakSetter" "plan" "LBreakSetter$Plan;") (by decide +kernel)) (fun _ h9 => h9) rfl dX6_shift_97 ?_
        refine va_get (D := D) (ci := 1) (v := .ref (q 22)) (C := RX1) (T := TX1) (N := 17) hx hb hts (by decide +kernel) hown hK hP k16 h16 rfl 11 (by decide) (hts (.fieldLink RX6 137 "BreakSetter$Plan" "shiftPauses" "[I") (by decide +kernel)) (fun _ h9 => h9) rfl dX6_shift_100 ?_
        refine lv_iload_n hx hb dX6_shift_103 rfl (lv_at hl 1 rfl) ?_
        refine j_iald hx hb hK hP k22 1 h22 rfl ⟨by omega, by omega⟩ (Nat.le_of_ble_eq_true rfl) dX6_shift_104 ?_
        refine W_wen (y := iI (g (151 + 5 * ss))) (congrArg iI (e22 ss (by omega) (by omega))) ?_
        have w9 := Wf_sh hg c8.1 (by omega)
        refine j_if_ne (tgt := 112) hx hb dX6_shift_105 rfl ⟨by omega, by omega⟩ (fun c105 => ?_) (fun c105 => ?_)
        · skip
          refine lv_aload_n hx hb dX6_shift_112 rfl (lv_at hl 0 rfl) ?_
          refine va_get (D := D) (ci := 6) (v := .ref (q 16)) (C := RX6) (T := TX6) (N := 8) hx hb hts (by decide +kernel) hown hK hP k0 h0 rfl 3 (by decide) (hts (.fieldLink RX6 23 "BreakSetter" "plan" "LBreakSetter$Plan;") (by decide +kernel)) (fun _ h9 => h9) rfl dX6_shift_113 ?_
          refine va_get (D := D) (ci := 1) (v := .ref (q 23)) (C := RX1) (T := TX1) (N := 17) hx hb hts (by decide +kernel) hown hK hP k16 h16 rfl 12 (by decide) (hts (.fieldLink RX6 140 "BreakSetter$Plan" "shiftFirst" "[I") (by decide +kernel)) (fun _ h9 => h9) rfl dX6_shift_116 ?_
          refine lv_iload_n hx hb dX6_shift_119 rfl (lv_at hl 1 rfl) ?_
          refine j_iald hx hb hK hP k23 1 h23 rfl ⟨by omega, by omega⟩ (Nat.le_of_ble_eq_true rfl) dX6_shift_120 ?_
          refine W_wen (y := iI (g (152 + 5 * ss))) (congrArg iI (e23 ss (by omega) (by omega))) ?_
          exact hret ls 121 _ dX6_shift_121 (by unfold shiftF; rw [if_pos ⟨c8, by omega, by omega⟩, if_neg (fun h => c105 h.2), show 148 + 5 * ss + ww = 152 + 5 * ss by omega])
        · skip
          refine lv_iconst (v := iI (-1)) hx hb dX6_shift_108 rfl ?_
          refine lv_goto (tgt := 121) hx hb dX6_shift_109 rfl ?_
          exact hret ls 121 _ dX6_shift_121 (by unfold shiftF; rw [if_pos ⟨c8, by omega, by omega⟩, if_pos ⟨hsw, c105⟩])
    · skip
      refine j_swOut (tgt := 122) hx hb dX6_shift_22 hw0 (by omega) rfl ?_
      exact hthr ls 122 143 (SA 1) _ hE.2.2.1.2.1 hl.1 dX6_shift_122 dX6_shift_125 dX6_shift_126 dX6_shift_128 dX6_shift_131 (by unfold shiftF; exact if_neg (fun h => hsw h.2))
  · skip
    exact hthr ls 11 122 (SA 0) _ hE.2.2.1.1 hl.1 dX6_shift_11 dX6_shift_14 dX6_shift_15 dX6_shift_17 dX6_shift_20 (by unfold shiftF; exact if_neg (fun h => c8 h.1))

set_option maxHeartbeats 4000000 in
set_option maxRecDepth 100000 in
theorem c_X6_pause {SA : Nat → Nat} {l : Launch} (hl0 : l.stackTraces = false) {D : va_G} {C : Nat → ClassId} {q : Nat → Nat} {w : va_W} {g : Int → Int} {lf cn len : Int} (hb9 : BsR q C w g lf cn len) (hg : Wf g) {kk ww : Int} (hs : R32 kk) (hw0 : R32 ww) : CX SA l yX6_pause wsX6_pauseX 6 82 D C [.ref (q 0), .int (iI (kk)), .int (iI (ww))] (w) (pauseF g kk ww) := by
  obtain ⟨⟨⟨⟨k16, ln, nd, h16⟩, ⟨k17, f17, h17, e17⟩, ⟨k18, f18, h18, e18⟩, ⟨k19, f19, h19, e19⟩, ⟨k20, f20, h20, e20⟩, ⟨k21, f21, h21, e21⟩, ⟨k22, f22, h22, e22⟩, ⟨k23, f23, h23, e23⟩, ⟨k24, f24, h24, e24⟩, ⟨k25, f25, h25, e25⟩, ⟨k26, f26, h26, e26⟩, ⟨k27, f27, h27, e27⟩⟩, ⟨k28, h28⟩, ⟨k29, f29, h29, e29⟩, ⟨k30, f30, h30, e30⟩⟩, ⟨k0, h0⟩, ⟨k34, nr, h34⟩, ⟨k1, h1⟩⟩ := id hb9
  refine CX_of hl0 (cc := cX6_pause) (maxL := 3) (by decide) rfl (Nat.le_of_ble_eq_true rfl) rfl (Nat.le_of_ble_eq_true rfl) (Nat.le_of_ble_eq_true rfl) (by decide +kernel) (by decide +kernel) (by decide +kernel) ?_
  intro p e s m below meth c Q ls hx hb hml hown hts hK hNW hE hl hP hret hthr
  have hl : lv_has ls 3 [(0, .ref (q 0)), (1, .int (iI (kk))), (2, .int (iI (ww)))] := hl
  have n := Wf_n hg
  refine lv_aload_n hx hb dX6_pause_0 rfl (lv_at hl 0 rfl) ?_
  refine va_get (D := D) (ci := 6) (v := .ref (q 16)) (C := RX6) (T := TX6) (N := 8) hx hb hts (by decide +kernel) hown hK hP k0 h0 rfl 3 (by decide) (hts (.fieldLink RX6 23 "BreakSetter" "plan" "LBreakSetter$Plan;") (by decide +kernel)) (fun _ h9 => h9) rfl dX6_pause_1 ?_
  refine lv_iload_n hx hb dX6_pause_4 rfl (lv_at hl 1 rfl) ?_
  refine CR_callV (As := [.int (iI (kk))]) (rest := []) ⟨hx, hb, hml, hown, hts⟩ (c_X1_hasPause hb9.1.1 hg hs) (cwV 1 hts gX6_pauseX_X1_hasPause rfl rfl rfl (by decide +kernel) ⟨Nat.le_of_ble_eq_true rfl, Nat.le_of_ble_eq_true rfl⟩) (q0 := k16) h16 rfl rfl hK hNW hP rfl hl.1 rfl (Nat.le_of_ble_eq_true rfl) dX6_pause_5 ⟨Nat.zero_le _, Nat.zero_le _⟩ ?_
  refine j_ifneB (tgt := 21) hx hb dX6_pause_8 rfl (fun c8 => ?_) (fun c8 => ?_)
  · skip
    refine lv_iload_n hx hb dX6_pause_21 rfl (lv_at hl 2 rfl) ?_
    by_cases hsw : 0 ≤ ww ∧ ww ≤ 4
    · skip
      obtain ⟨hsw1, hsw2⟩ := hsw
      rcases (show ww = 0 ∨ ww = 1 ∨ ww = 2 ∨ ww = 3 ∨ ww = 4 by omega) with hsw | hsw | hsw | hsw | hsw
      · skip
        refine j_swIn (k := 0) (off := 34) (tgt := 56) hx hb dX6_pause_22 hsw (by decide) (by decide) rfl rfl ?_
        refine lv_aload_n hx hb dX6_pause_56 rfl (lv_at hl 0 rfl) ?_
        refine va_get (D := D) (ci := 6) (v := .ref (q 16)) (C := RX6) (T := TX6) (N := 8) hx hb hts (by decide +kernel) hown hK hP k0 h0 rfl 3 (by decide) (hts (.fieldLink RX6 23 "BreakSetter" "plan" "LBreakSetter$Plan;") (by decide +kernel)) (fun _ h9 => h9) rfl dX6_pause_57 ?_
        refine va_get (D := D) (ci := 1) (v := .ref (q 24)) (C := RX1) (T := TX1) (N := 17) hx hb hts (by decide +kernel) hown hK hP k16 h16 rfl 13 (by decide) (hts (.fieldLink RX6 150 "BreakSetter$Plan" "pauseShift" "[I") (by decide +kernel)) (fun _ h9 => h9) rfl dX6_pause_60 ?_
        refine lv_iload_n hx hb dX6_pause_63 rfl (lv_at hl 1 rfl) ?_
        refine j_iald hx hb hK hP k24 1 h24 rfl ⟨by omega, by omega⟩ (Nat.le_of_ble_eq_true rfl) dX6_pause_64 ?_
        refine W_wen (y := iI (g (188 + 5 * kk))) (congrArg iI (e24 kk (by omega) (by omega))) ?_
        exact hret ls 65 _ dX6_pause_65 (by unfold pauseF; rw [if_pos ⟨c8, by omega, by omega⟩, if_neg (by omega), show 188 + 5 * kk + ww = 188 + 5 * kk by omega])
      · skip
        refine j_swIn (k := 1) (off := 44) (tgt := 66) hx hb dX6_pause_22 hsw (by decide) (by decide) rfl rfl ?_
        refine lv_aload_n hx hb dX6_pause_66 rfl (lv_at hl 0 rfl) ?_
        refine va_get (D := D) (ci := 6) (v := .ref (q 16)) (C := RX6) (T := TX6) (N := 8) hx hb hts (by decide +kernel) hown hK hP k0 h0 rfl 3 (by decide) (hts (.fieldLink RX6 23 "BreakSetter" "plan" "LBreakSetter$Plan;") (by decide +kernel)) (fun _ h9 => h9) rfl dX6_pause_67 ?_
        refine va_get (D := D) (ci := 1) (v := .ref (q 25)) (C := RX1) (T := TX1) (N := 17) hx hb hts (by decide +kernel) hown hK hP k16 h16 rfl 14 (by decide) (hts (.fieldLink RX6 153 "BreakSetter$Plan" "pauseLong" "[I") (by decide +kernel)) (fun _ h9 => h9) rfl dX6_pause_70 ?_
        refine lv_iload_n hx hb dX6_pause_73 rfl (lv_at hl 1 rfl) ?_
        refine j_iald hx hb hK hP k25 1 h25 rfl ⟨by omega, by omega⟩ (Nat.le_of_ble_eq_true rfl) dX6_pause_74 ?_
        refine W_wen (y := iI (g (189 + 5 * kk))) (congrArg iI (e25 kk (by omega) (by omega))) ?_
        exact hret ls 75 _ dX6_pause_75 (by unfold pauseF; rw [if_pos ⟨c8, by omega, by omega⟩, if_neg (by omega), show 188 + 5 * kk + ww = 189 + 5 * kk by omega])
      · skip
        refine j_swIn (k := 2) (off := 54) (tgt := 76) hx hb dX6_pause_22 hsw (by decide) (by decide) rfl rfl ?_
        refine lv_aload_n hx hb dX6_pause_76 rfl (lv_at hl 0 rfl) ?_
        refine va_get (D := D) (ci := 6) (v := .ref (q 16)) (C := RX6) (T := TX6) (N := 8) hx hb hts (by decide +kernel) hown hK hP k0 h0 rfl 3 (by decide) (hts (.fieldLink RX6 23 "BreakSetter" "plan" "LBreakSetter$Plan;") (by decide +kernel)) (fun _ h9 => h9) rfl dX6_pause_77 ?_
        refine va_get (D := D) (ci := 1) (v := .ref (q 26)) (C := RX1) (T := TX1) (N := 17) hx hb hts (by decide +kernel) hown hK hP k16 h16 rfl 15 (by decide) (hts (.fieldLink RX6 156 "BreakSetter$Plan" "pauseEarly" "[I") (by decide +kernel)) (fun _ h9 => h9) rfl dX6_pause_80 ?_
        refine lv_iload_n hx hb dX6_pause_83 rfl (lv_at hl 1 rfl) ?_
        refine j_iald hx hb hK hP k26 1 h26 rfl ⟨by omega, by omega⟩ (Nat.le_of_ble_eq_true rfl) dX6_pause_84 ?_
        refine W_wen (y := iI (g (190 + 5 * kk))) (congrArg iI (e26 kk (by omega) (by omega))) ?_
        exact hret ls 85 _ dX6_pause_85 (by unfold pauseF; rw [if_pos ⟨c8, by omega, by omega⟩, if_neg (by omega), show 188 + 5 * kk + ww = 190 + 5 * kk by omega])
      · skip
        refine j_swIn (k := 3) (off := 64) (tgt := 86) hx hb dX6_pause_22 hsw (by decide) (by decide) rfl rfl ?_
        refine lv_aload_n hx hb dX6_pause_86 rfl (lv_at hl 0 rfl) ?_
        refine va_get (D := D) (ci := 6) (v := .ref (q 16)) (C := RX6) (T := TX6) (N := 8) hx hb hts (by decide +kernel) hown hK hP k0 h0 rfl 3 (by decide) (hts (.fieldLink RX6 23 "BreakSetter" "plan" "LBreakSetter$Plan;") (by decide +kernel)) (fun _ h9 => h9) rfl dX6_pause_87 ?_
        refine va_get (D := D) (ci := 1) (v := .ref (q 27)) (C := RX1) (T := TX1) (N := 17) hx hb hts (by decide +kernel) hown hK hP k16 h16 rfl 16 (by decide) (hts (.fieldLink RX6 159 "BreakSetter$Plan" "pauseLate" "[I") (by decide +kernel)) (fun _ h9 => h9) rfl dX6_pause_90 ?_
        refine lv_iload_n hx hb dX6_pause_93 rfl (lv_at hl 1 rfl) ?_
        refine j_iald hx hb hK hP k27 1 h27 rfl ⟨by omega, by omega⟩ (Nat.le_of_ble_eq_true rfl) dX6_pause_94 ?_
        refine W_wen (y := iI (g (191 + 5 * kk))) (congrArg iI (e27 kk (by omega) (by omega))) ?_
        exact hret ls 95 _ dX6_pause_95 (by unfold pauseF; rw [if_pos ⟨c8, by omega, by omega⟩, if_neg (by omega), show 188 + 5 * kk + ww = 191 + 5 * kk by omega])
      · skip
        refine j_swIn (k := 4) (off := 74) (tgt := 96) hx hb dX6_pause_22 hsw (by decide) (by decide) rfl rfl ?_
        refine lv_aload_n hx hb dX6_pause_96 rfl (lv_at hl 0 rfl) ?_
        refine va_get (D := D) (ci := 6) (v := .ref (q 28)) (C := RX6) (T := TX6) (N := 8) hx hb hts (by decide +kernel) hown hK hP k0 h0 rfl 4 (by decide) (hts (.fieldLink RX6 40 "BreakSetter" "roster" "LBreakSetter$Roster;") (by decide +kernel)) (fun _ h9 => h9) rfl dX6_pause_97 ?_
        refine va_get (D := D) (ci := 3) (v := .ref (q 29)) (C := RX3) (T := TX3) (N := 4) hx hb hts (by decide +kernel) hown hK hP k28 h28 rfl 1 (by decide) (hts (.fieldLink RX6 162 "BreakSetter$Roster" "places" "[I") (by decide +kernel)) (fun _ h9 => h9) rfl dX6_pause_100 ?_
        refine lv_iload_n hx hb dX6_pause_103 rfl (lv_at hl 1 rfl) ?_
        refine j_iald hx hb hK hP k29 1 h29 rfl ⟨by omega, by omega⟩ (Nat.le_of_ble_eq_true rfl) dX6_pause_104 ?_
        refine W_wen (y := iI (g (192 + 5 * kk) - 1)) (congrArg iI (e29 kk (by omega) (by omega))) ?_
        exact hret ls 105 _ dX6_pause_105 (by unfold pauseF; rw [if_pos ⟨c8, by omega, by omega⟩, if_pos hsw])
    · skip
      refine j_swOut (tgt := 106) hx hb dX6_pause_22 hw0 (by omega) rfl ?_
      exact hthr ls 106 165 (SA 3) _ hE.2.2.1.2.2.2 hl.1 dX6_pause_106 dX6_pause_109 dX6_pause_110 dX6_pause_112 dX6_pause_115 (by unfold pauseF; exact if_neg (fun h => hsw h.2))
  · skip
    exact hthr ls 11 148 (SA 2) _ hE.2.2.1.2.2.1 hl.1 dX6_pause_11 dX6_pause_14 dX6_pause_15 dX6_pause_17 dX6_pause_20 (by unfold pauseF; exact if_neg (fun h => c8 h.1))
