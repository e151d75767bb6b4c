def BsR (q : Nat → Nat) (C : Nat → ClassId) (w : va_W) (g : Int → Int) (lf cn len : Int) : Prop := RoW q C w g ∧ (∃ k : Nat, w[k]? = some (q 0, .inr (6, [.ref (q 1), .ref (q 3), .ref (q 4), .ref (q 16), .ref (q 28), .ref (q 31), .ref (q 34), .int (iI lf)]))) ∧ (∃ (k : Nat) (nr : Int), w[k]? = some (q 34, .inr (0, [.ref (q 35), .int (iI nr), .int (iI cn)]))) ∧ (∃ k : Nat, w[k]? = some (q 1, .inr (4, [.ref (q 2), .int (iI len)])))
set_option maxHeartbeats 4000000 in
set_option maxRecDepth 100000 in
theorem c_X6_fault {l : Launch} {D : va_G} {C : Nat → ClassId} {q : Nat → Nat} {w : va_W} {g : Int → Int} {lf cn len : Int} (hb9 : BsR q C w g lf cn len) (hg : Wf g)  : CR l yX6_fault wsX6_fault 0 0 D C [.ref (q 0)] (w) (.int (iI (lf))) := by
  obtain ⟨⟨⟨⟨k16, ln, nd, h16⟩, ⟨k17, f17, h17, e17⟩, ⟨k18, f18, h18, e18⟩, ⟨k19, f19, h19, e19⟩, ⟨k20, f20, h20, e20⟩, ⟨k21, f21, h21, e21⟩, ⟨k22, f22, h22, e22⟩, ⟨k23, f23, h23, e23⟩, ⟨k24, f24, h24, e24⟩, ⟨k25, f25, h25, e25⟩, ⟨k26, f26, h26, e26⟩, ⟨k27, f27, h27, e27⟩⟩, ⟨k28, h28⟩, ⟨k29, f29, h29, e29⟩, ⟨k30, f30, h30, e30⟩⟩, ⟨k0, h0⟩, ⟨k34, nr, h34⟩, ⟨k1, h1⟩⟩ := id hb9
  refine CR_of (cc := cX6_fault) (maxL := 1) (by decide) rfl (Nat.le_of_ble_eq_true rfl) ?_
  intro p e s m below meth c Q ls hx hb hml hown hts hK hNW hl hP hret
  have hl : lv_has ls 1 [(0, .ref (q 0))] := hl
  refine lv_aload_n hx hb dX6_fault_0 rfl (lv_at hl 0 rfl) ?_
  refine va_get (D := D) (ci := 6) (v := .int (iI (lf))) (C := RX6) (T := TX6) (N := 8) hx hb hts (by decide +kernel) hown hK hP k0 h0 rfl 7 (by decide) (hts (.fieldLink RX6 60 "BreakSetter" "latestFault" "I") (by decide +kernel)) (fun _ h9 => h9) rfl dX6_fault_1 ?_
  exact hret ls 4 _ dX6_fault_4 rfl

set_option maxHeartbeats 4000000 in
set_option maxRecDepth 100000 in
theorem c_X6_now {l : Launch} {D : va_G} {C : Nat → ClassId} {q : Nat → Nat} {w : va_W} {g : Int → Int} {lf cn len : Int} (hb9 : BsR q C w g lf cn len) (hg : Wf g) {zz : Int} (hz : R32 zz) : CR l yX6_now wsX6_now 1 22 D C [.ref (q 0), .int (iI (zz))] (w) (.int (iI (nowF g cn len zz))) := by
  obtain ⟨⟨⟨⟨k16, ln, nd, h16⟩, ⟨k17, f17, h17, e17⟩, ⟨k18, f18, h18, e18⟩, ⟨k19, f19, h19, e19⟩, ⟨k20, f20, h20, e20⟩, ⟨k21, f21, h21, e21⟩, ⟨k22, f22, h22, e22⟩, ⟨k23, f23, h23, e23⟩, ⟨k24, f24, h24, e24⟩, ⟨k25, f25, h25, e25⟩, ⟨k26, f26, h26, e26⟩, ⟨k27, f27, h27, e27⟩⟩, ⟨k28, h28⟩, ⟨k29, f29, h29, e29⟩, ⟨k30, f30, h30, e30⟩⟩, ⟨k0, h0⟩, ⟨k34, nr, h34⟩, ⟨k1, h1⟩⟩ := id hb9
  refine CR_of (cc := cX6_now) (maxL := 2) (by decide) rfl (Nat.le_of_ble_eq_true rfl) ?_
  intro p e s m below meth c Q ls hx hb hml hown hts hK hNW hl hP hret
  have hl : lv_has ls 2 [(0, .ref (q 0)), (1, .int (iI (zz)))] := hl
  refine lv_iload_n hx hb dX6_now_0 rfl (lv_at hl 1 rfl) ?_
  by_cases hsw : 0 ≤ zz ∧ zz ≤ 7
  · skip
    obtain ⟨hsw1, hsw2⟩ := hsw
    rcases (show zz = 0 ∨ zz = 1 ∨ zz = 2 ∨ zz = 3 ∨ zz = 4 ∨ zz = 5 ∨ zz = 6 ∨ zz = 7 by omega) with hsw | hsw | hsw | hsw | hsw | hsw | hsw | hsw
    · skip
      refine j_swIn (k := 0) (off := 47) (tgt := 48) hx hb dX6_now_1 hsw (by decide) (by decide) rfl rfl ?_
      refine lv_aload_n hx hb dX6_now_48 rfl (lv_at hl 0 rfl) ?_
      refine va_get (D := D) (ci := 6) (v := .ref (q 16)) (C := RX6) (T := TX6) (N := 8) hx hb hts (by decide +kernel) hown hK hP k0 h0 rfl 3 (by decide) (hts (.fieldLink RX6 23 "BreakSetter" "plan" "LBreakSetter$Plan;") (by decide +kernel)) (fun _ h9 => h9) rfl dX6_now_49 ?_
      refine va_get (D := D) (ci := 1) (v := .int (iI (g 0))) (C := RX1) (T := TX1) (N := 17) hx hb hts (by decide +kernel) hown hK hP k16 h16 rfl 0 (by decide) (hts (.fieldLink RX6 96 "BreakSetter$Plan" "posts" "I") (by decide +kernel)) (fun _ h9 => h9) rfl dX6_now_52 ?_
      exact hret ls 55 _ dX6_now_55 (by subst hsw; rfl)
    · skip
      refine j_swIn (k := 1) (off := 55) (tgt := 56) hx hb dX6_now_1 hsw (by decide) (by decide) rfl rfl ?_
      refine lv_aload_n hx hb dX6_now_56 rfl (lv_at hl 0 rfl) ?_
      refine va_get (D := D) (ci := 6) (v := .ref (q 16)) (C := RX6) (T := TX6) (N := 8) hx hb hts (by decide +kernel) hown hK hP k0 h0 rfl 3 (by decide) (hts (.fieldLink RX6 23 "BreakSetter" "plan" "LBreakSetter$Plan;") (by decide +kernel)) (fun _ h9 => h9) rfl dX6_now_57 ?_
      refine va_get (D := D) (ci := 1) (v := .int (iI (g 2))) (C := RX1) (T := TX1) (N := 17) hx hb hts (by decide +kernel) hown hK hP k16 h16 rfl 4 (by decide) (hts (.fieldLink RX6 99 "BreakSetter$Plan" "shifts" "I") (by decide +kernel)) (fun _ h9 => h9) rfl dX6_now_60 ?_
      exact hret ls 63 _ dX6_now_63 (by subst hsw; rfl)
    · skip
      refine j_swIn (k := 2) (off := 63) (tgt := 64) hx hb dX6_now_1 hsw (by decide) (by decide) rfl rfl ?_
      refine lv_aload_n hx hb dX6_now_64 rfl (lv_at hl 0 rfl) ?_
      refine va_get (D := D) (ci := 6) (v := .ref (q 16)) (C := RX6) (T := TX6) (N := 8) hx hb hts (by decide +kernel) hown hK hP k0 h0 rfl 3 (by decide) (hts (.fieldLink RX6 23 "BreakSetter" "plan" "LBreakSetter$Plan;") (by decide +kernel)) (fun _ h9 => h9) rfl dX6_now_65 ?_
      refine va_get (D := D) (ci := 1) (v := .int (iI (g 3))) (C := RX1) (T := TX1) (N := 17) hx hb hts (by decide +kernel) hown hK hP k16 h16 rfl 5 (by decide) (hts (.fieldLink RX6 102 "BreakSetter$Plan" "pauses" "I") (by decide +kernel)) (fun _ h9 => h9) rfl dX6_now_68 ?_
      exact hret ls 71 _ dX6_now_71 (by subst hsw; rfl)
    · skip
      refine j_swIn (k := 3) (off := 71) (tgt := 72) hx hb dX6_now_1 hsw (by decide) (by decide) rfl rfl ?_
      refine lv_aload_n hx hb dX6_now_72 rfl (lv_at hl 0 rfl) ?_
      refine va_get (D := D) (ci := 6) (v := .ref (q 28)) (C := RX6) (T := TX6) (N := 8) hx hb hts (by decide +kernel) hown hK hP k0 h0 rfl 4 (by decide) (hts (.fieldLink RX6 40 "BreakSetter" "roster" "LBreakSetter$Roster;") (by decide +kernel)) (fun _ h9 => h9) rfl dX6_now_73 ?_
      refine CR_callV (As := []) (rest := []) ⟨hx, hb, hml, hown, hts⟩ (c_X3_countPlaced hb9.1 hg) (cwV 0 hts gX6_now_X3_countPlaced rfl rfl rfl (by decide +kernel) ⟨Nat.le_of_ble_eq_true rfl, Nat.le_of_ble_eq_true rfl⟩) (q0 := k28) h28 rfl rfl hK hNW hP rfl hl.1 rfl (Nat.le_of_ble_eq_true rfl) dX6_now_76 ⟨Nat.zero_le _, Nat.zero_le _⟩ ?_
      exact hret ls 79 _ dX6_now_79 (by subst hsw; rfl)
    · skip
      refine j_swIn (k := 4) (off := 79) (tgt := 80) hx hb dX6_now_1 hsw (by decide) (by decide) rfl rfl ?_
      refine lv_aload_n hx hb dX6_now_80 rfl (lv_at hl 0 rfl) ?_
      refine va_get (D := D) (ci := 6) (v := .ref (q 28)) (C := RX6) (T := TX6) (N := 8) hx hb hts (by decide +kernel) hown hK hP k0 h0 rfl 4 (by decide) (hts (.fieldLink RX6 40 "BreakSetter" "roster" "LBreakSetter$Roster;") (by decide +kernel)) (fun _ h9 => h9) rfl dX6_now_81 ?_
      refine va_get (D := D) (ci := 3) (v := .int (iI (SF g))) (C := RX3) (T := TX3) (N := 4) hx hb hts (by decide +kernel) hown hK hP k28 h28 rfl 3 (by decide) (hts (.fieldLink RX6 108 "BreakSetter$Roster" "shortfall" "I") (by decide +kernel)) (fun _ h9 => h9) rfl dX6_now_84 ?_
      exact hret ls 87 _ dX6_now_87 (by subst hsw; rfl)
    · skip
      refine j_swIn (k := 5) (off := 87) (tgt := 88) hx hb dX6_now_1 hsw (by decide) (by decide) rfl rfl ?_
      refine lv_aload_n hx hb dX6_now_88 rfl (lv_at hl 0 rfl) ?_
      refine va_get (D := D) (ci := 6) (v := .ref (q 16)) (C := RX6) (T := TX6) (N := 8) hx hb hts (by decide +kernel) hown hK hP k0 h0 rfl 3 (by decide) (hts (.fieldLink RX6 23 "BreakSetter" "plan" "LBreakSetter$Plan;") (by decide +kernel)) (fun _ h9 => h9) rfl dX6_now_89 ?_
      refine va_get (D := D) (ci := 1) (v := .int (iI (g 1))) (C := RX1) (T := TX1) (N := 17) hx hb hts (by decide +kernel) hown hK hP k16 h16 rfl 1 (by decide) (hts (.fieldLink RX6 111 "BreakSetter$Plan" "walk" "I") (by decide +kernel)) (fun _ h9 => h9) rfl dX6_now_92 ?_
      exact hret ls 95 _ dX6_now_95 (by subst hsw; rfl)
    · skip
      refine j_swIn (k := 6) (off := 95) (tgt := 96) hx hb dX6_now_1 hsw (by decide) (by decide) rfl rfl ?_
      refine lv_aload_n hx hb dX6_now_96 rfl (lv_at hl 0 rfl) ?_
      refine va_get (D := D) (ci := 6) (v := .ref (q 34)) (C := RX6) (T := TX6) (N := 8) hx hb hts (by decide +kernel) hown hK hP k0 h0 rfl 6 (by decide) (hts (.fieldLink RX6 56 "BreakSetter" "history" "LBreakSetter$History;") (by decide +kernel)) (fun _ h9 => h9) rfl dX6_now_97 ?_
      refine va_get (D := D) (ci := 0) (v := .int (iI (cn))) (C := RX0) (T := TX0) (N := 3) hx hb hts (by decide +kernel) hown hK hP k34 h34 rfl 2 (by decide) (hts (.fieldLink RX6 114 "BreakSetter$History" "count" "I") (by decide +kernel)) (fun _ h9 => h9) rfl dX6_now_100 ?_
      exact hret ls 103 _ dX6_now_103 (by subst hsw; rfl)
    · skip
      refine j_swIn (k := 7) (off := 103) (tgt := 104) hx hb dX6_now_1 hsw (by decide) (by decide) rfl rfl ?_
      refine lv_aload_n hx hb dX6_now_104 rfl (lv_at hl 0 rfl) ?_
      refine va_get (D := D) (ci := 6) (v := .ref (q 1)) (C := RX6) (T := TX6) (N := 8) hx hb hts (by decide +kernel) hown hK hP k0 h0 rfl 0 (by decide) (hts (.fieldLink RX6 10 "BreakSetter" "tape" "LBreakSetter$Tape;") (by decide +kernel)) (fun _ h9 => h9) rfl dX6_now_105 ?_
      refine va_get (D := D) (ci := 4) (v := .int (iI (len))) (C := RX4) (T := TX4) (N := 2) hx hb hts (by decide +kernel) hown hK hP k1 h1 rfl 1 (by decide) (hts (.fieldLink RX6 72 "BreakSetter$Tape" "length" "I") (by decide +kernel)) (fun _ h9 => h9) rfl dX6_now_108 ?_
      exact hret ls 111 _ dX6_now_111 (by subst hsw; rfl)
  · skip
    refine j_swOut (tgt := 112) hx hb dX6_now_1 hz (by omega) rfl ?_
    refine lv_iconst (v := iI (-1)) hx hb dX6_now_112 rfl ?_
    exact hret ls 113 _ dX6_now_113 (by unfold nowF; rw [if_neg (by omega), if_neg (by omega), if_neg (by omega), if_neg (by omega), if_neg (by omega), if_neg (by omega), if_neg (by omega), if_neg (by omega)])

set_option maxHeartbeats 4000000 in
set_option maxRecDepth 100000 in
theorem c_X6_slot {l : Launch} {D : va_G} {C : Nat → ClassId} {q : Nat → Nat} {w : va_W} {g : Int → Int} {lf cn len : Int} (hb9 : BsR q C w g lf cn len) (hg : Wf g) {pp tt ww : Int} (hp : R32 pp) (ht : R32 tt) (hw0 : R32 ww) : CR l yX6_slot wsX6_slot 2 51 D C [.ref (q 0), .int (iI (pp)), .int (iI (tt)), .int (iI (ww))] (w) (.int (iI (slotF g pp tt ww))) := by
  obtain ⟨⟨⟨⟨k16, ln, nd, h16⟩, ⟨k17, f17, h17, e17⟩, ⟨k18, f18, h18, e18⟩, ⟨k19, f19, h19, e19⟩, ⟨k20, f20, h20, e20⟩, ⟨k21, f21, h21, e21⟩, ⟨k22, f22, h22, e22⟩, ⟨k23, f23, h23, e23⟩, ⟨k24, f24, h24, e24⟩, ⟨k25, f25, h25, e25⟩, ⟨k26, f26, h26, e26⟩, ⟨k27, f27, h27, e27⟩⟩, ⟨k28, h28⟩, ⟨k29, f29, h29, e29⟩, ⟨k30, f30, h30, e30⟩⟩, ⟨k0, h0⟩, ⟨k34, nr, h34⟩, ⟨k1, h1⟩⟩ := id hb9
  refine CR_of (cc := cX6_slot) (maxL := 5) (by decide) rfl (Nat.le_of_ble_eq_true rfl) ?_
  intro p e s m below meth c Q ls hx hb hml hown hts hK hNW hl hP hret
  have hl : lv_has ls 5 [(0, .ref (q 0)), (1, .int (iI (pp))), (2, .int (iI (tt))), (3, .int (iI (ww)))] := hl
  have n := Wf_n hg
  refine lv_aload_n hx hb dX6_slot_0 rfl (lv_at hl 0 rfl) ?_
  refine va_get (D := D) (ci := 6) (v := .ref (q 16)) (C := RX6) (T := TX6) (N := 8) hx hb hts (by decide +kernel) hown hK hP k0 h0 rfl 3 (by decide) (hts (.fieldLink RX6 23 "BreakSetter" "plan" "LBreakSetter$Plan;") (by decide +kernel)) (fun _ h9 => h9) rfl dX6_slot_1 ?_
  refine lv_iload_n hx hb dX6_slot_4 rfl (lv_at hl 1 rfl) ?_
  refine CR_callV (As := [.int (iI (pp))]) (rest := []) ⟨hx, hb, hml, hown, hts⟩ (c_X1_hasPost hb9.1.1 hg hp) (cwV 1 hts gX6_slot_X1_hasPost rfl rfl rfl (by decide +kernel) ⟨Nat.le_of_ble_eq_true rfl, Nat.le_of_ble_eq_true rfl⟩) (q0 := k16) h16 rfl rfl hK hNW hP rfl hl.1 rfl (Nat.le_of_ble_eq_true rfl) dX6_slot_5 ⟨Nat.zero_le _, Nat.zero_le _⟩ ?_
  refine j_ifeqB (tgt := 18) hx hb dX6_slot_8 rfl (fun c8 => ?_) (fun c8 => ?_)
  · skip
    refine lv_iconst (v := iI (-1)) hx hb dX6_slot_18 rfl ?_
    exact hret ls 19 _ dX6_slot_19 (by unfold slotF; rw [if_neg (by omega)])
  · skip
    refine lv_iload_n hx hb dX6_slot_11 rfl (lv_at hl 2 rfl) ?_
    refine CR_callS (As := [.int (iI (tt))]) (rest := []) ⟨hx, hb, hml, hown, hts⟩ (c_X6_isSlot ht) (cwS 1 hts gX6_slot_X6_isSlot rfl rfl rfl (by decide +kernel) ⟨Nat.le_of_ble_eq_true rfl, Nat.le_of_ble_eq_true rfl⟩) hK hNW hP rfl hl.1 rfl (Nat.le_of_ble_eq_true rfl) dX6_slot_12 ⟨Nat.zero_le _, Nat.zero_le _⟩ ?_
    refine j_ifneB (tgt := 20) hx hb dX6_slot_15 rfl (fun c15 => ?_) (fun c15 => ?_)
    · skip
      refine lv_iload_n hx hb dX6_slot_20 rfl (lv_at hl 1 rfl) ?_
      refine lv_iload_n hx hb dX6_slot_21 rfl (lv_at hl 2 rfl) ?_
      refine CR_callS (As := [.int (iI (pp)), .int (iI (tt))]) (rest := []) ⟨hx, hb, hml, hown, hts⟩ c_X6_cellOf (cwS 2 hts gX6_slot_X6_cellOf rfl rfl rfl (by decide +kernel) ⟨Nat.le_of_ble_eq_true rfl, Nat.le_of_ble_eq_true rfl⟩) hK hNW hP rfl hl.1 rfl (Nat.le_of_ble_eq_true rfl) dX6_slot_22 ⟨Nat.zero_le _, Nat.zero_le _⟩ ?_
      refine lv_istore (lv' := [(4, .int (iI (pp * 48 + tt))), (0, .ref (q 0)), (1, .int (iI (pp))), (2, .int (iI (tt))), (3, .int (iI (ww)))]) hx hb dX6_slot_25 hl (by decide) rfl (fun ls hl => ?_)
      refine lv_iload_n hx hb dX6_slot_27 rfl (lv_at hl 4 rfl) ?_
      by_cases hsw : 0 ≤ ww ∧ ww ≤ 2
      · skip
        obtain ⟨hsw1, hsw2⟩ := hsw
        rcases (show ww = 0 ∨ ww = 1 ∨ ww = 2 by omega) with hsw | hsw | hsw
        · skip
          refine j_swIn (k := 0) (off := 28) (tgt := 56) hx hb dX6_slot_28 hsw (by decide) (by decide) rfl rfl ?_
          refine lv_aload_n hx hb dX6_slot_56 rfl (lv_at hl 1 rfl) ?_
          refine va_get (D := D) (ci := 6) (v := .ref (q 16)) (C := RX6) (T := TX6) (N := 8) hx hb hts (by decide +kernel) hown hK hP k0 h0 rfl 3 (by decide) (hts (.fieldLink RX6 23 "BreakSetter" "plan" "LBreakSetter$Plan;") (by decide +kernel)) (fun _ h9 => h9) rfl dX6_slot_57 ?_
          refine va_get (D := D) (ci := 1) (v := .ref (q 17)) (C := RX1) (T := TX1) (N := 17) hx hb hts (by decide +kernel) hown hK hP k16 h16 rfl 6 (by decide) (hts (.fieldLink RX6 177 "BreakSetter$Plan" "need" "[I") (by decide +kernel)) (fun _ h9 => h9) rfl dX6_slot_60 ?_
          refine lv_iload hx hb dX6_slot_63 (lv_at hl 0 rfl) ?_
          refine j_iald hx hb hK hP k17 1 h17 rfl ⟨by omega, by omega⟩ (Nat.le_of_ble_eq_true rfl) dX6_slot_65 ?_
          refine W_wen (y := iI (g (4 + (pp * 48 + tt)))) (congrArg iI (e17 (pp * 48 + tt) (by omega) (by omega))) ?_
          exact hret ls 66 _ dX6_slot_66 (by unfold slotF; rw [if_pos ⟨⟨by omega, by omega⟩, by omega, by omega⟩, if_pos hsw, show 4 + (pp * 48 + tt) = 4 + 48 * pp + tt by omega])
        · skip
          refine j_swIn (k := 1) (off := 39) (tgt := 67) hx hb dX6_slot_28 hsw (by decide) (by decide) rfl rfl ?_
          refine lv_aload_n hx hb dX6_slot_67 rfl (lv_at hl 1 rfl) ?_
          refine va_get (D := D) (ci := 6) (v := .ref (q 28)) (C := RX6) (T := TX6) (N := 8) hx hb hts (by decide +kernel) hown hK hP k0 h0 rfl 4 (by decide) (hts (.fieldLink RX6 40 "BreakSetter" "roster" "LBreakSetter$Roster;") (by decide +kernel)) (fun _ h9 => h9) rfl dX6_slot_68 ?_
          refine va_get (D := D) (ci := 3) (v := .ref (q 30)) (C := RX3) (T := TX3) (N := 4) hx hb hts (by decide +kernel) hown hK hP k28 h28 rfl 2 (by decide) (hts (.fieldLink RX6 180 "BreakSetter$Roster" "cover" "[I") (by decide +kernel)) (fun _ h9 => h9) rfl dX6_slot_71 ?_
          refine lv_iload hx hb dX6_slot_74 (lv_at hl 0 rfl) ?_
          refine j_iald hx hb hK hP k30 1 h30 rfl ⟨by omega, by omega⟩ (Nat.le_of_ble_eq_true rfl) dX6_slot_76 ?_
          refine W_wen (y := iI (cvc g (pp * 48 + tt))) (congrArg iI (e30 (pp * 48 + tt) (by omega) (by omega))) ?_
          exact hret ls 77 _ dX6_slot_77 (by unfold slotF; rw [if_pos ⟨⟨by omega, by omega⟩, by omega, by omega⟩, if_neg (by omega), if_pos hsw, cvc_at (by omega) (by omega)])
        · skip
          refine j_swIn (k := 2) (off := 50) (tgt := 78) hx hb dX6_slot_28 hsw (by decide) (by decide) rfl rfl ?_
          refine lv_aload_n hx hb dX6_slot_78 rfl (lv_at hl 1 rfl) ?_
          refine va_get (D := D) (ci := 6) (v := .ref (q 28)) (C := RX6) (T := TX6) (N := 8) hx hb hts (by decide +kernel) hown hK hP k0 h0 rfl 4 (by decide) (hts (.fieldLink RX6 40 "BreakSetter" "roster" "LBreakSetter$Roster;") (by decide +kernel)) (fun _ h9 => h9) rfl dX6_slot_79 ?_
          refine lv_iload hx hb dX6_slot_82 (lv_at hl 0 rfl) ?_
          refine CR_callV (As := [.int (iI (pp * 48 + tt))]) (rest := []) ⟨hx, hb, hml, hown, hts⟩ (c_X3_shortOf hb9.1 hg (by omega)) (cwV 1 hts gX6_slot_X3_shortOf rfl rfl rfl (by decide +kernel) ⟨Nat.le_of_ble_eq_true rfl, Nat.le_of_ble_eq_true rfl⟩) (q0 := k28) h28 rfl rfl hK hNW hP rfl hl.1 rfl (Nat.le_of_ble_eq_true rfl) dX6_slot_84 ⟨Nat.zero_le _, Nat.zero_le _⟩ ?_
          exact hret ls 87 _ dX6_slot_87 (by unfold slotF; rw [if_pos ⟨⟨by omega, by omega⟩, by omega, by omega⟩, if_neg (by omega), if_neg (by omega), if_pos hsw, shc_at (by omega) (by omega)])
      · skip
        refine j_swOut (tgt := 88) hx hb dX6_slot_28 hw0 (by omega) rfl ?_
        refine lv_iconst (v := iI (-1)) hx hb dX6_slot_88 rfl ?_
        exact hret ls 89 _ dX6_slot_89 (by unfold slotF; rw [if_pos ⟨⟨by omega, by omega⟩, by omega, by omega⟩, if_neg (by omega), if_neg (by omega), if_neg (by omega)])
    · skip
      refine lv_iconst (v := iI (-1)) hx hb dX6_slot_18 rfl ?_
      exact hret ls 19 _ dX6_slot_19 (by unfold slotF; rw [if_neg (by omega)])

set_option maxHeartbeats 4000000 in
set_option maxRecDepth 100000 in
theorem c_X6_why {l : Launch} {D : va_G} {C : Nat → ClassId} {q : Nat → Nat} {w : va_W} {g : Int → Int} {lf cn len : Int} (hb9 : BsR q C w g lf cn len) (hg : Wf g) {kk tt : Int} (hk : R32 kk) (ht : R32 tt) : CR l yX6_why wsX6_why 2 49 D C [.ref (q 0), .int (iI (kk)), .int (iI (tt))] (w) (.int (iI (whyF g kk tt))) := by
  obtain ⟨⟨⟨⟨k16, ln, nd, h16⟩, ⟨k17, f17, h17, e17⟩, ⟨k18, f18, h18, e18⟩, ⟨k19, f19, h19, e19⟩, ⟨k20, f20, h20, e20⟩, ⟨k21, f21, h21, e21⟩, ⟨k22, f22, h22, e22⟩, ⟨k23, f23, h23, e23⟩, ⟨k24, f24, h24, e24⟩, ⟨k25, f25, h25, e25⟩, ⟨k26, f26, h26, e26⟩, ⟨k27, f27, h27, e27⟩⟩, ⟨k28, h28⟩, ⟨k29, f29, h29, e29⟩, ⟨k30, f30, h30, e30⟩⟩, ⟨k0, h0⟩, ⟨k34, nr, h34⟩, ⟨k1, h1⟩⟩ := id hb9
  refine CR_of (cc := cX6_why) (maxL := 3) (by decide) rfl (Nat.le_of_ble_eq_true rfl) ?_
  intro p e s m below meth c Q ls hx hb hml hown hts hK hNW hl hP hret
  have hl : lv_has ls 3 [(0, .ref (q 0)), (1, .int (iI (kk))), (2, .int (iI (tt)))] := hl
  have n := Wf_n hg
  refine lv_aload_n hx hb dX6_why_0 rfl (lv_at hl 0 rfl) ?_
  refine va_get (D := D) (ci := 6) (v := .ref (q 16)) (C := RX6) (T := TX6) (N := 8) hx hb hts (by decide +kernel) hown hK hP k0 h0 rfl 3 (by decide) (hts (.fieldLink RX6 23 "BreakSetter" "plan" "LBreakSetter$Plan;") (by decide +kernel)) (fun _ h9 => h9) rfl dX6_why_1 ?_
  refine lv_iload_n hx hb dX6_why_4 rfl (lv_at hl 1 rfl) ?_
  refine CR_callV (As := [.int (iI (kk))]) (rest := []) ⟨hx, hb, hml, hown, hts⟩ (c_X1_hasPause hb9.1.1 hg hk) (cwV 1 hts gX6_why_X1_hasPause rfl rfl rfl (by decide +kernel) ⟨Nat.le_of_ble_eq_true rfl, Nat.le_of_ble_eq_true rfl⟩) (q0 := k16) h16 rfl rfl hK hNW hP rfl hl.1 rfl (Nat.le_of_ble_eq_true rfl) dX6_why_5 ⟨Nat.zero_le _, Nat.zero_le _⟩ ?_
  refine j_ifeqB (tgt := 18) hx hb dX6_why_8 rfl (fun c8 => ?_) (fun c8 => ?_)
  · skip
    refine lv_iconst (v := iI (-1)) hx hb dX6_why_18 rfl ?_
    exact hret ls 19 _ dX6_why_19 (by unfold whyF; rw [if_neg (by omega)])
  · skip
    refine lv_iload_n hx hb dX6_why_11 rfl (lv_at hl 2 rfl) ?_
    refine CR_callS (As := [.int (iI (tt))]) (rest := []) ⟨hx, hb, hml, hown, hts⟩ (c_X6_isSlot ht) (cwS 1 hts gX6_why_X6_isSlot rfl rfl rfl (by decide +kernel) ⟨Nat.le_of_ble_eq_true rfl, Nat.le_of_ble_eq_true rfl⟩) hK hNW hP rfl hl.1 rfl (Nat.le_of_ble_eq_true rfl) dX6_why_12 ⟨Nat.zero_le _, Nat.zero_le _⟩ ?_
    refine j_ifneB (tgt := 20) hx hb dX6_why_15 rfl (fun c15 => ?_) (fun c15 => ?_)
    · skip
      refine lv_aload_n hx hb dX6_why_20 rfl (lv_at hl 0 rfl) ?_
      refine va_get (D := D) (ci := 6) (v := .ref (q 28)) (C := RX6) (T := TX6) (N := 8) hx hb hts (by decide +kernel) hown hK hP k0 h0 rfl 4 (by decide) (hts (.fieldLink RX6 40 "BreakSetter" "roster" "LBreakSetter$Roster;") (by decide +kernel)) (fun _ h9 => h9) rfl dX6_why_21 ?_
      refine lv_iload_n hx hb dX6_why_24 rfl (lv_at hl 1 rfl) ?_
      refine lv_iload_n hx hb dX6_why_25 rfl (lv_at hl 2 rfl) ?_
      refine CR_callV (As := [.int (iI (kk)), .int (iI (tt))]) (rest := []) ⟨hx, hb, hml, hown, hts⟩ (c_X3_reasonAgainst hb9.1 hg c8 c15) (cwV 2 hts gX6_why_X3_reasonAgainst rfl rfl rfl (by decide +kernel) ⟨Nat.le_of_ble_eq_true rfl, Nat.le_of_ble_eq_true rfl⟩) (q0 := k28) h28 rfl rfl hK hNW hP rfl hl.1 rfl (Nat.le_of_ble_eq_true rfl) dX6_why_26 ⟨Nat.zero_le _, Nat.zero_le _⟩ ?_
      exact hret ls 29 _ dX6_why_29 (by unfold whyF; rw [if_pos ⟨c8, c15⟩])
    · skip
      refine lv_iconst (v := iI (-1)) hx hb dX6_why_18 rfl ?_
      exact hret ls 19 _ dX6_why_19 (by unfold whyF; rw [if_neg (by omega)])

set_option maxHeartbeats 4000000 in
set_option maxRecDepth 100000 in
theorem c_X6_would {l : Launch} {D : va_G} {C : Nat → ClassId} {q : Nat → Nat} {w : va_W} {g : Int → Int} {lf cn len : Int} (hb9 : BsR q C w g lf cn len) (hg : Wf g) {kk tt : Int} (hk : R32 kk) (ht : R32 tt) : CR l yX6_would wsX6_would 3 72 D C [.ref (q 0), .int (iI (kk)), .int (iI (tt))] (w) (.int (iI (wouldF g kk tt))) := by
  obtain ⟨⟨⟨⟨k16, ln, nd, h16⟩, ⟨k17, f17, h17, e17⟩, ⟨k18, f18, h18, e18⟩, ⟨k19, f19, h19, e19⟩, ⟨k20, f20, h20, e20⟩, ⟨k21, f21, h21, e21⟩, ⟨k22, f22, h22, e22⟩, ⟨k23, f23, h23, e23⟩, ⟨k24, f24, h24, e24⟩, ⟨k25, f25, h25, e25⟩, ⟨k26, f26, h26, e26⟩, ⟨k27, f27, h27, e27⟩⟩, ⟨k28, h28⟩, ⟨k29, f29, h29, e29⟩, ⟨k30, f30, h30, e30⟩⟩, ⟨k0, h0⟩, ⟨k34, nr, h34⟩, ⟨k1, h1⟩⟩ := id hb9
  refine CR_of (cc := cX6_would) (maxL := 3) (by decide) rfl (Nat.le_of_ble_eq_true rfl) ?_
  intro p e s m below meth c Q ls hx hb hml hown hts hK hNW hl hP hret
  have hl : lv_has ls 3 [(0, .ref (q 0)), (1, .int (iI (kk))), (2, .int (iI (tt)))] := hl
  have n := Wf_n hg
  refine lv_aload_n hx hb dX6_would_0 rfl (lv_at hl 0 rfl) ?_
  refine va_get (D := D) (ci := 6) (v := .ref (q 16)) (C := RX6) (T := TX6) (N := 8) hx hb hts (by decide +kernel) hown hK hP k0 h0 rfl 3 (by decide) (hts (.fieldLink RX6 23 "BreakSetter" "plan" "LBreakSetter$Plan;") (by decide +kernel)) (fun _ h9 => h9) rfl dX6_would_1 ?_
  refine lv_iload_n hx hb dX6_would_4 rfl (lv_at hl 1 rfl) ?_
  refine CR_callV (As := [.int (iI (kk))]) (rest := []) ⟨hx, hb, hml, hown, hts⟩ (c_X1_hasPause hb9.1.1 hg hk) (cwV 1 hts gX6_would_X1_hasPause rfl rfl rfl (by decide +kernel) ⟨Nat.le_of_ble_eq_true rfl, Nat.le_of_ble_eq_true rfl⟩) (q0 := k16) h16 rfl rfl hK hNW hP rfl hl.1 rfl (Nat.le_of_ble_eq_true rfl) dX6_would_5 ⟨Nat.zero_le _, Nat.zero_le _⟩ ?_
  refine j_ifeqB (tgt := 30) hx hb dX6_would_8 rfl (fun c8 => ?_) (fun c8 => ?_)
  · skip
    refine lv_iconst (v := iI (-1)) hx hb dX6_would_30 rfl ?_
    exact hret ls 31 _ dX6_would_31 (by unfold wouldF; (rw [if_neg (by omega)]; done))
  · skip
    refine lv_iload_n hx hb dX6_would_11 rfl (lv_at hl 2 rfl) ?_
    refine CR_callS (As := [.int (iI (tt))]) (rest := []) ⟨hx, hb, hml, hown, hts⟩ (c_X6_isSlot ht) (cwS 1 hts gX6_would_X6_isSlot rfl rfl rfl (by decide +kernel) ⟨Nat.le_of_ble_eq_true rfl, Nat.le_of_ble_eq_true rfl⟩) hK hNW hP rfl hl.1 rfl (Nat.le_of_ble_eq_true rfl) dX6_would_12 ⟨Nat.zero_le _, Nat.zero_le _⟩ ?_
    refine j_ifeqB (tgt := 30) hx hb dX6_would_15 rfl (fun c15 => ?_) (fun c15 => ?_)
    · skip
      refine lv_iconst (v := iI (-1)) hx hb dX6_would_30 rfl ?_
      exact hret ls 31 _ dX6_would_31 (by unfold wouldF; (rw [if_neg (by omega)]; done))
    · skip
      refine lv_aload_n hx hb dX6_would_18 rfl (lv_at hl 0 rfl) ?_
      refine va_get (D := D) (ci := 6) (v := .ref (q 28)) (C := RX6) (T := TX6) (N := 8) hx hb hts (by decide +kernel) hown hK hP k0 h0 rfl 4 (by decide) (hts (.fieldLink RX6 40 "BreakSetter" "roster" "LBreakSetter$Roster;") (by decide +kernel)) (fun _ h9 => h9) rfl dX6_would_19 ?_
      refine lv_iload_n hx hb dX6_would_22 rfl (lv_at hl 1 rfl) ?_
      refine lv_iload_n hx hb dX6_would_23 rfl (lv_at hl 2 rfl) ?_
      refine CR_callV (As := [.int (iI (kk)), .int (iI (tt))]) (rest := []) ⟨hx, hb, hml, hown, hts⟩ (c_X3_reasonAgainst hb9.1 hg c8 c15) (cwV 2 hts gX6_would_X3_reasonAgainst rfl rfl rfl (by decide +kernel) ⟨Nat.le_of_ble_eq_true rfl, Nat.le_of_ble_eq_true rfl⟩) (q0 := k28) h28 rfl rfl hK hNW hP rfl hl.1 rfl (Nat.le_of_ble_eq_true rfl) dX6_would_24 ⟨Nat.zero_le _, Nat.zero_le _⟩ ?_
      have yy := wy_rng g kk tt
      refine j_if_eq (tgt := 32) hx hb dX6_would_27 rfl ⟨by omega, by omega⟩ (fun c27 => ?_) (fun c27 => ?_)
      · skip
        refine lv_aload_n hx hb dX6_would_32 rfl (lv_at hl 0 rfl) ?_
        refine va_get (D := D) (ci := 6) (v := .ref (q 28)) (C := RX6) (T := TX6) (N := 8) hx hb hts (by decide +kernel) hown hK hP k0 h0 rfl 4 (by decide) (hts (.fieldLink RX6 40 "BreakSetter" "roster" "LBreakSetter$Roster;") (by decide +kernel)) (fun _ h9 => h9) rfl dX6_would_33 ?_
        refine lv_iload_n hx hb dX6_would_36 rfl (lv_at hl 1 rfl) ?_
        refine CR_callV (As := [.int (iI (kk))]) (rest := []) ⟨hx, hb, hml, hown, hts⟩ (c_X3_shortfallWithout hb9.1 hg c8) (cwV 1 hts gX6_would_X3_shortfallWithout rfl rfl rfl (by decide +kernel) ⟨Nat.le_of_ble_eq_true rfl, Nat.le_of_ble_eq_true rfl⟩) (q0 := k28) h28 rfl rfl hK hNW hP rfl hl.1 rfl (Nat.le_of_ble_eq_true rfl) dX6_would_37 ⟨Nat.zero_le _, Nat.zero_le _⟩ ?_
        refine lv_aload_n hx hb dX6_would_40 rfl (lv_at hl 0 rfl) ?_
        refine va_get (D := D) (ci := 6) (v := .ref (q 28)) (C := RX6) (T := TX6) (N := 8) hx hb hts (by decide +kernel) hown hK hP k0 h0 rfl 4 (by decide) (hts (.fieldLink RX6 40 "BreakSetter" "roster" "LBreakSetter$Roster;") (by decide +kernel)) (fun _ h9 => h9) rfl dX6_would_41 ?_
        refine lv_iload_n hx hb dX6_would_44 rfl (lv_at hl 1 rfl) ?_
        refine lv_iload_n hx hb dX6_would_45 rfl (lv_at hl 2 rfl) ?_
        refine CR_callV (As := [.int (iI (kk)), .int (iI (tt))]) (rest := [.int (iI (SF (lie g kk (-1))))]) ⟨hx, hb, hml, hown, hts⟩ (c_X3_lossAt hb9.1 hg c8 (wy_00 c27)) (cwV 2 hts gX6_would_X3_lossAt rfl rfl rfl (by decide +kernel) ⟨Nat.le_of_ble_eq_true rfl, Nat.le_of_ble_eq_true rfl⟩) (q0 := k28) h28 rfl rfl hK hNW hP rfl hl.1 rfl (Nat.le_of_ble_eq_true rfl) dX6_would_46 ⟨Nat.zero_le _, Nat.zero_le _⟩ ?_
        refine j_iadd hx hb dX6_would_49 ?_
        exact hret ls 50 _ dX6_would_50 (by unfold wouldF; rw [if_pos ⟨⟨c8, c15⟩, c27⟩]; exact congrArg iI (by omega))
      · skip
        refine lv_iconst (v := iI (-1)) hx hb dX6_would_30 rfl ?_
        exact hret ls 31 _ dX6_would_31 (by unfold wouldF; first | (rw [if_neg (fun q => c27 q.2)]; done) | (rw [if_neg (by omega)]; done))

set_option maxHeartbeats 4000000 in
set_option maxRecDepth 100000 in
theorem c_X6_best {l : Launch} {D : va_G} {C : Nat → ClassId} {q : Nat → Nat} {w : va_W} {g : Int → Int} {lf cn len : Int} (hb9 : BsR q C w g lf cn len) (hg : Wf g) {kk : Int} (hk : R32 kk) : CR l yX6_best wsX6_best 4 97 D C [.ref (q 0), .int (iI (kk))] (w) (.int (iI (bestF g kk))) := by
  obtain ⟨⟨⟨⟨k16, ln, nd, h16⟩, ⟨k17, f17, h17, e17⟩, ⟨k18, f18, h18, e18⟩, ⟨k19, f19, h19, e19⟩, ⟨k20, f20, h20, e20⟩, ⟨k21, f21, h21, e21⟩, ⟨k22, f22, h22, e22⟩, ⟨k23, f23, h23, e23⟩, ⟨k24, f24, h24, e24⟩, ⟨k25, f25, h25, e25⟩, ⟨k26, f26, h26, e26⟩, ⟨k27, f27, h27, e27⟩⟩, ⟨k28, h28⟩, ⟨k29, f29, h29, e29⟩, ⟨k30, f30, h30, e30⟩⟩, ⟨k0, h0⟩, ⟨k34, nr, h34⟩, ⟨k1, h1⟩⟩ := id hb9
  refine CR_of (cc := cX6_best) (maxL := 2) (by decide) rfl (Nat.le_of_ble_eq_true rfl) ?_
  intro p e s m below meth c Q ls hx hb hml hown hts hK hNW hl hP hret
  have hl : lv_has ls 2 [(0, .ref (q 0)), (1, .int (iI (kk)))] := hl
  have n := Wf_n hg
  refine lv_aload_n hx hb dX6_best_0 rfl (lv_at hl 0 rfl) ?_
  refine va_get (D := D) (ci := 6) (v := .ref (q 16)) (C := RX6) (T := TX6) (N := 8) hx hb hts (by decide +kernel) hown hK hP k0 h0 rfl 3 (by decide) (hts (.fieldLink RX6 23 "BreakSetter" "plan" "LBreakSetter$Plan;") (by decide +kernel)) (fun _ h9 => h9) rfl dX6_best_1 ?_
  refine lv_iload_n hx hb dX6_best_4 rfl (lv_at hl 1 rfl) ?_
  refine CR_callV (As := [.int (iI (kk))]) (rest := []) ⟨hx, hb, hml, hown, hts⟩ (c_X1_hasPause hb9.1.1 hg hk) (cwV 1 hts gX6_best_X1_hasPause rfl rfl rfl (by decide +kernel) ⟨Nat.le_of_ble_eq_true rfl, Nat.le_of_ble_eq_true rfl⟩) (q0 := k16) h16 rfl rfl hK hNW hP rfl hl.1 rfl (Nat.le_of_ble_eq_true rfl) dX6_best_5 ⟨Nat.zero_le _, Nat.zero_le _⟩ ?_
  refine j_ifeqB (tgt := 22) hx hb dX6_best_8 rfl (fun c8 => ?_) (fun c8 => ?_)
  · skip
    refine lv_iconst (v := iI (-1)) hx hb dX6_best_22 rfl ?_
    exact hret ls 23 _ dX6_best_23 (by unfold bestF; first | (rw [if_pos c8]; done) | (rw [if_neg c8]; done))
  · skip
    refine lv_aload_n hx hb dX6_best_11 rfl (lv_at hl 0 rfl) ?_
    refine va_get (D := D) (ci := 6) (v := .ref (q 28)) (C := RX6) (T := TX6) (N := 8) hx hb hts (by decide +kernel) hown hK hP k0 h0 rfl 4 (by decide) (hts (.fieldLink RX6 40 "BreakSetter" "roster" "LBreakSetter$Roster;") (by decide +kernel)) (fun _ h9 => h9) rfl dX6_best_12 ?_
    refine lv_iload_n hx hb dX6_best_15 rfl (lv_at hl 1 rfl) ?_
    refine CR_callV (As := [.int (iI (kk))]) (rest := []) ⟨hx, hb, hml, hown, hts⟩ (c_X3_findBestSlot hb9.1 hg c8) (cwV 1 hts gX6_best_X3_findBestSlot rfl rfl rfl (by decide +kernel) ⟨Nat.le_of_ble_eq_true rfl, Nat.le_of_ble_eq_true rfl⟩) (q0 := k28) h28 rfl rfl hK hNW hP rfl hl.1 rfl (Nat.le_of_ble_eq_true rfl) dX6_best_16 ⟨Nat.zero_le _, Nat.zero_le _⟩ ?_
    refine lv_goto (tgt := 23) hx hb dX6_best_19 rfl ?_
    exact hret ls 23 _ dX6_best_23 (by unfold bestF; first | (rw [if_pos c8]; done) | (rw [if_neg c8]; done))

set_option maxHeartbeats 4000000 in
set_option maxRecDepth 100000 in
theorem c_X6_better {l : Launch} {D : va_G} {C : Nat → ClassId} {q : Nat → Nat} {w : va_W} {g : Int → Int} {lf cn len : Int} (hb9 : BsR q C w g lf cn len) (hg : Wf g)  : CR l yX6_better wsX6_better 5 122 D C [.ref (q 0)] (w) (.int (iI (betterOf g))) := by
  obtain ⟨⟨⟨⟨k16, ln, nd, h16⟩, ⟨k17, f17, h17, e17⟩, ⟨k18, f18, h18, e18⟩, ⟨k19, f19, h19, e19⟩, ⟨k20, f20, h20, e20⟩, ⟨k21, f21, h21, e21⟩, ⟨k22, f22, h22, e22⟩, ⟨k23, f23, h23, e23⟩, ⟨k24, f24, h24, e24⟩, ⟨k25, f25, h25, e25⟩, ⟨k26, f26, h26, e26⟩, ⟨k27, f27, h27, e27⟩⟩, ⟨k28, h28⟩, ⟨k29, f29, h29, e29⟩, ⟨k30, f30, h30, e30⟩⟩, ⟨k0, h0⟩, ⟨k34, nr, h34⟩, ⟨k1, h1⟩⟩ := id hb9
  refine CR_of (cc := cX6_better) (maxL := 1) (by decide) rfl (Nat.le_of_ble_eq_true rfl) ?_
  intro p e s m below meth c Q ls hx hb hml hown hts hK hNW hl hP hret
  have hl : lv_has ls 1 [(0, .ref (q 0))] := hl
  refine lv_aload_n hx hb dX6_better_0 rfl (lv_at hl 0 rfl) ?_
  refine va_get (D := D) (ci := 6) (v := .ref (q 28)) (C := RX6) (T := TX6) (N := 8) hx hb hts (by decide +kernel) hown hK hP k0 h0 rfl 4 (by decide) (hts (.fieldLink RX6 40 "BreakSetter" "roster" "LBreakSetter$Roster;") (by decide +kernel)) (fun _ h9 => h9) rfl dX6_better_1 ?_
  refine CR_callV (As := []) (rest := []) ⟨hx, hb, hml, hown, hts⟩ (c_X3_findBestMove hb9.1 hg) (cwV 0 hts gX6_better_X3_findBestMove rfl rfl rfl (by decide +kernel) ⟨Nat.le_of_ble_eq_true rfl, Nat.le_of_ble_eq_true rfl⟩) (q0 := k28) h28 rfl rfl hK hNW hP rfl hl.1 rfl (Nat.le_of_ble_eq_true rfl) dX6_better_4 ⟨Nat.zero_le _, Nat.zero_le _⟩ ?_
  exact hret ls 7 _ dX6_better_7 rfl

set_option maxHeartbeats 4000000 in
set_option maxRecDepth 100000 in
theorem c_X6_worst {l : Launch} {D : va_G} {C : Nat → ClassId} {q : Nat → Nat} {w : va_W} {g : Int → Int} {lf cn len : Int} (hb9 : BsR q C w g lf cn len) (hg : Wf g)  : CR l yX6_worst wsX6_worst 3 76 D C [.ref (q 0)] (w) (.int (iI (worstOf g))) := by
  obtain ⟨⟨⟨⟨k16, ln, nd, h16⟩, ⟨k17, f17, h17, e17⟩, ⟨k18, f18, h18, e18⟩, ⟨k19, f19, h19, e19⟩, ⟨k20, f20, h20, e20⟩, ⟨k21, f21, h21, e21⟩, ⟨k22, f22, h22, e22⟩, ⟨k23, f23, h23, e23⟩, ⟨k24, f24, h24, e24⟩, ⟨k25, f25, h25, e25⟩, ⟨k26, f26, h26, e26⟩, ⟨k27, f27, h27, e27⟩⟩, ⟨k28, h28⟩, ⟨k29, f29, h29, e29⟩, ⟨k30, f30, h30, e30⟩⟩, ⟨k0, h0⟩, ⟨k34, nr, h34⟩, ⟨k1, h1⟩⟩ := id hb9
  refine CR_of (cc := cX6_worst) (maxL := 1) (by decide) rfl (Nat.le_of_ble_eq_true rfl) ?_
  intro p e s m below meth c Q ls hx hb hml hown hts hK hNW hl hP hret
  have hl : lv_has ls 1 [(0, .ref (q 0))] := hl
  refine lv_aload_n hx hb dX6_worst_0 rfl (lv_at hl 0 rfl) ?_
  refine va_get (D := D) (ci := 6) (v := .ref (q 28)) (C := RX6) (T := TX6) (N := 8) hx hb hts (by decide +kernel) hown hK hP k0 h0 rfl 4 (by decide) (hts (.fieldLink RX6 40 "BreakSetter" "roster" "LBreakSetter$Roster;") (by decide +kernel)) (fun _ h9 => h9) rfl dX6_worst_1 ?_
  refine CR_callV (As := []) (rest := []) ⟨hx, hb, hml, hown, hts⟩ (c_X3_findWorstSlot hb9.1 hg) (cwV 0 hts gX6_worst_X3_findWorstSlot rfl rfl rfl (by decide +kernel) ⟨Nat.le_of_ble_eq_true rfl, Nat.le_of_ble_eq_true rfl⟩) (q0 := k28) h28 rfl rfl hK hNW hP rfl hl.1 rfl (Nat.le_of_ble_eq_true rfl) dX6_worst_4 ⟨Nat.zero_le _, Nat.zero_le _⟩ ?_
  exact hret ls 7 _ dX6_worst_7 rfl
