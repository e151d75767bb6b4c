theorem TpW_mk {q : Nat → Nat} {C : Nat → ClassId} {len : Int} {bs : Int → Int} {v : va_W} : TpW q C (v ++ wTp q C len bs) len bs := by
  have key : ∀ {k : Nat} {z : Nat × va_E}, (wTp q C len bs)[k]? = some z → (v ++ wTp q C len bs)[v.length + k]? = some z := fun {k z} e => by
    rw [List.getElem?_append_right (by omega), Nat.add_sub_cancel_left]; exact e
  exact ⟨⟨_, key (k := 0) rfl⟩, ⟨_, key (k := 1) rfl⟩⟩
set_option maxHeartbeats 4000000 in
set_option maxRecDepth 100000 in
theorem c_X6_undo {l : Launch} {D : va_G} {C : Nat → ClassId} {q : Nat → Nat} {wp : va_W} {g : Int → Int} (hw : PlW q C wp g) (hg : Wf g) {lf : Int} {rows pla cv : Int → Int} {nr cn : Int} (hn : 0 ≤ nr ∧ nr < 10) (hc : 0 ≤ cn ∧ cn ≤ 10) (hR : Ro3 g (SF g, pla, cv)) {g2 : Int → Int} (h2w : Wf g2) (h2s : SameP g g2) (h2r : 0 < cn → ∀ k : Int, 0 ≤ k → k < 24 → rows ((if nr = 0 then 9 else nr - 1) * 24 + k) = g2 (192 + 5 * k) - 1) : CI (S := (Int → Int) × Int × Int × Int × (Int → Int) × (Int → Int)) l yX6_undo wsX6_undo 4 88 D C [.ref (q 0)] (wBS q C lf ++ wHi q C rows nr cn ++ wRo q C (SF g) pla cv ++ wp) (fun u => wBS q C lf ++ wHi q C (u.1) (u.2.1) (u.2.2.1) ++ wRo q C (u.2.2.2.1) (u.2.2.2.2.1) (u.2.2.2.2.2) ++ wp) (fun r u => (cn = 0 ∧ r = iI (-1) ∧ u = (rows, nr, cn, SF g, pla, cv)) ∨ (0 < cn ∧ r = iI (cn - 1) ∧ Ro3 g2 u.2.2.2 ∧ u.1 = rows ∧ u.2.1 = (if nr = 0 then 9 else nr - 1) ∧ u.2.2.1 = cn - 1)) := by
  obtain ⟨⟨k16, ln, nd, h16⟩, ⟨k17, f17, h17, e17⟩, ⟨k18, f18, h18, e18⟩, ⟨k19, f19, h19, e19⟩, ⟨k20, f20, h20, e20⟩, ⟨k21, f21, h21, e21⟩, ⟨k22, f22, h22, e22⟩, ⟨k23, f23, h23, e23⟩, ⟨k24, f24, h24, e24⟩, ⟨k25, f25, h25, e25⟩, ⟨k26, f26, h26, e26⟩, ⟨k27, f27, h27, e27⟩⟩ := id hw
  refine CI_of (cc := cX6_undo) (maxL := 1) (by decide) rfl (Nat.le_of_ble_eq_true rfl) ?_
  intro p e s m below meth c A Q ls hx hb hml hown hts hK hNW hA hl hP hD hS hret
  have hl : lv_has ls 1 [(0, .ref (q 0))] := hl
  refine lv_aload_n hx hb dX6_undo_0 rfl (lv_at hl 0 rfl) ?_
  refine va_get (D := D) (ci := 6) (v := .ref (q 34)) (C := RX6) (T := TX6) (N := 8) hx hb hts (by decide +kernel) hown hK hP 0 rfl rfl 6 (by decide) (hts (.fieldLink RX6 56 "BreakSetter" "history" "LBreakSetter$History;") (by decide +kernel)) (fun _ h9 => h9) rfl dX6_undo_1 ?_
  refine va_get (D := D) (ci := 0) (v := .int (iI (cn))) (C := RX0) (T := TX0) (N := 3) hx hb hts (by decide +kernel) hown hK hP 1 rfl rfl 2 (by decide) (hts (.fieldLink RX6 114 "BreakSetter$History" "count" "I") (by decide +kernel)) (fun _ h9 => h9) rfl dX6_undo_4 ?_
  refine j_if_ne (tgt := 12) hx hb dX6_undo_7 rfl ⟨by omega, by omega⟩ (fun c7 => ?_) (fun c7 => ?_)
  · skip
    refine lv_aload_n hx hb dX6_undo_12 rfl (lv_at hl 0 rfl) ?_
    refine va_get (D := D) (ci := 6) (v := .ref (q 34)) (C := RX6) (T := TX6) (N := 8) hx hb hts (by decide +kernel) hown hK hP 0 rfl rfl 6 (by decide) (hts (.fieldLink RX6 56 "BreakSetter" "history" "LBreakSetter$History;") (by decide +kernel)) (fun _ h9 => h9) rfl dX6_undo_13 ?_
    refine lv_aload_n hx hb dX6_undo_16 rfl (lv_at hl 0 rfl) ?_
    refine va_get (D := D) (ci := 6) (v := .ref (q 28)) (C := RX6) (T := TX6) (N := 8) hx hb hts (by decide +kernel) hown hK hP 0 rfl rfl 4 (by decide) (hts (.fieldLink RX6 40 "BreakSetter" "roster" "LBreakSetter$Roster;") (by decide +kernel)) (fun _ h9 => h9) rfl dX6_undo_17 ?_
    refine va_get (D := D) (ci := 3) (v := .ref (q 29)) (C := RX3) (T := TX3) (N := 4) hx hb hts (by decide +kernel) hown hK hP 3 rfl rfl 1 (by decide) (hts (.fieldLink RX6 162 "BreakSetter$Roster" "places" "[I") (by decide +kernel)) (fun _ h9 => h9) rfl dX6_undo_20 ?_
    refine CV_callVp (As := [.ref (q 29)]) (rest := []) (wn := fun u => wBS q C lf ++ wHi q C rows u (cn - 1) ++ wRo q C (SF g) (cpy rows pla (u * 24) 0 24) cv ++ wp) ⟨hx, hb, hml, hown, hts⟩ (c_X0_bringBack hn hc (by omega)) (cwV 1 hts gX6_undo_X0_bringBack rfl rfl rfl (by decide +kernel) ⟨Nat.le_of_ble_eq_true rfl, Nat.le_of_ble_eq_true rfl⟩) (q0 := 0) rfl rfl rfl hK hNW hP hD hS hA (pm_keep q C lf rows nr cn (SF g) pla cv wp) (fun u => (pm_keep q C lf rows u (cn - 1) (SF g) (cpy rows pla (u * 24) 0 24) cv wp).symm) rfl hl.1 rfl (Nat.le_of_ble_eq_true rfl) dX6_undo_23 ⟨Nat.zero_le _, Nat.zero_le _⟩ (fun nr1 H locs hw9 hP hD hS => ?_)
    have hP : va_P D vwCl (wBS q C lf ++ wHi q C rows nr1 (cn - 1) ++ wRo q C (SF g) (cpy rows pla (nr1 * 24) 0 24) cv ++ wp) H := hP
    have hD : va_D A (wBS q C lf ++ wHi q C rows nr1 (cn - 1) ++ wRo q C (SF g) (cpy rows pla (nr1 * 24) 0 24) cv ++ wp) := hD
    have hk1 : nr1 = if nr = 0 then 9 else nr - 1 := hw9
    have hpl : ∀ k : Int, 0 ≤ k → k < 24 → cpy rows pla (nr1 * 24) 0 24 k = g2 (192 + 5 * k) - 1 := fun k a b => by unfold cpy; rw [if_pos ⟨by omega, by omega⟩, hk1, show (if nr = 0 then 9 else nr - 1) * 24 + (k - 0) = (if nr = 0 then 9 else nr - 1) * 24 + k by omega]; exact h2r (by omega) k a b
    refine lv_aload_n hx hb dX6_undo_26 rfl (lv_at hl 0 rfl) ?_
    refine va_get (D := D) (ci := 6) (v := .ref (q 28)) (C := RX6) (T := TX6) (N := 8) hx hb hts (by decide +kernel) hown hK hP 0 rfl rfl 4 (by decide) (hts (.fieldLink RX6 40 "BreakSetter" "roster" "LBreakSetter$Roster;") (by decide +kernel)) (fun _ h9 => h9) rfl dX6_undo_27 ?_
    refine CV_callVp (As := []) (rest := []) (wn := fun u => wBS q C lf ++ wHi q C rows nr1 (cn - 1) ++ wRo q C (u.1) (u.2.1) (u.2.2) ++ wp) ⟨hx, hb, hml, hown, hts⟩ (c_X3_recount (PlW_same hw hg h2s) h2w hpl) (cwV 0 hts gX6_undo_X3_recount rfl rfl rfl (by decide +kernel) ⟨Nat.le_of_ble_eq_true rfl, Nat.le_of_ble_eq_true rfl⟩) (q0 := 0) rfl rfl rfl hK hNW hP hD hS hA (pm_ro (wBS q C lf ++ wHi q C rows nr1 (cn - 1)) (wRo q C (SF g) (cpy rows pla (nr1 * 24) 0 24) cv) wp) (fun u => (pm_ro (wBS q C lf ++ wHi q C rows nr1 (cn - 1)) (wRo q C u.1 u.2.1 u.2.2) wp).symm) rfl hl.1 rfl (Nat.le_of_ble_eq_true rfl) dX6_undo_30 ⟨Nat.zero_le _, Nat.zero_le _⟩ (fun ⟨s1, p1, c1⟩ H locs hw9 hP hD hS => ?_)
    have hP : va_P D vwCl (wBS q C lf ++ wHi q C rows nr1 (cn - 1) ++ wRo q C s1 p1 c1 ++ wp) H := hP
    have hD : va_D A (wBS q C lf ++ wHi q C rows nr1 (cn - 1) ++ wRo q C s1 p1 c1 ++ wp) := hD
    refine lv_aload_n hx hb dX6_undo_33 rfl (lv_at hl 0 rfl) ?_
    refine va_get (D := D) (ci := 6) (v := .ref (q 34)) (C := RX6) (T := TX6) (N := 8) hx hb hts (by decide +kernel) hown hK hP 0 rfl rfl 6 (by decide) (hts (.fieldLink RX6 56 "BreakSetter" "history" "LBreakSetter$History;") (by decide +kernel)) (fun _ h9 => h9) rfl dX6_undo_34 ?_
    refine va_get (D := D) (ci := 0) (v := .int (iI (cn - 1))) (C := RX0) (T := TX0) (N := 3) hx hb hts (by decide +kernel) hown hK hP 1 rfl rfl 2 (by decide) (hts (.fieldLink RX6 114 "BreakSetter$History" "count" "I") (by decide +kernel)) (fun _ h9 => h9) rfl dX6_undo_37 ?_
    exact hret H locs ls 40 _ (rows, nr1, cn - 1, s1, p1, c1) dX6_undo_40 (Or.inr ⟨by omega, rfl, hw9, rfl, hk1, rfl⟩) hP hD hS
  · skip
    refine lv_iconst (v := iI (-1)) hx hb dX6_undo_10 rfl ?_
    exact hret s.heap [] ls 11 _ (rows, nr, cn, (SF g), pla, cv) dX6_undo_11 (Or.inl ⟨c7, rfl, rfl⟩) hP hD hS

set_option maxHeartbeats 4000000 in
set_option maxRecDepth 100000 in
theorem c_X6_feed {l : Launch} {D : va_G} {C : Nat → ClassId} {q : Nat → Nat} {lf len : Int} {bs : Int → Int} (hn : 0 ≤ len ∧ len ≤ 640) {z1 z2 z3 z4 z5 : Int} : CI (S := Int × (Int → Int)) l yX6_feed wsX6_feed 1 22 D C [.ref (q 0), .int (iI (z1)), .int (iI (z2)), .int (iI (z3)), .int (iI (z4)), .int (iI (z5))] (wBS q C lf ++ wTp q C len bs) (fun u => wBS q C lf ++ wTp q C (u.1) (u.2)) (fun r u => r = iI (feedF len bs z1 z2 z3 z4 z5).1 ∧ u = (feedF len bs z1 z2 z3 z4 z5).2) := by
  refine CI_of (cc := cX6_feed) (maxL := 6) (by decide) rfl (Nat.le_of_ble_eq_true rfl) ?_
  intro p e s m below meth c A Q ls hx hb hml hown hts hK hNW hA hl hP hD hS hret
  have hl : lv_has ls 6 [(0, .ref (q 0)), (1, .int (iI (z1))), (2, .int (iI (z2))), (3, .int (iI (z3))), (4, .int (iI (z4))), (5, .int (iI (z5)))] := hl
  refine lv_aload_n hx hb dX6_feed_0 rfl (lv_at hl 0 rfl) ?_
  refine va_get (D := D) (ci := 6) (v := .ref (q 1)) (C := RX6) (T := TX6) (N := 8) hx hb hts (by decide +kernel) hown hK hP 0 rfl rfl 0 (by decide) (hts (.fieldLink RX6 10 "BreakSetter" "tape" "LBreakSetter$Tape;") (by decide +kernel)) (fun _ h9 => h9) rfl dX6_feed_1 ?_
  refine CR_callV (As := []) (rest := []) ⟨hx, hb, hml, hown, hts⟩ (c_X4_hasRoomForFeed (TpW_mk (v := wBS q C lf)) hn) (cwV 0 hts gX6_feed_X4_hasRoomForFeed rfl rfl rfl (by decide +kernel) ⟨Nat.le_of_ble_eq_true rfl, Nat.le_of_ble_eq_true rfl⟩) (q0 := 1) rfl rfl rfl hK hNW hP rfl hl.1 rfl (Nat.le_of_ble_eq_true rfl) dX6_feed_4 ⟨Nat.zero_le _, Nat.zero_le _⟩ ?_
  refine j_ifneB (tgt := 12) hx hb dX6_feed_7 rfl (fun c7 => ?_) (fun c7 => ?_)
  · skip
    refine lv_aload_n hx hb dX6_feed_12 rfl (lv_at hl 0 rfl) ?_
    refine va_get (D := D) (ci := 6) (v := .ref (q 1)) (C := RX6) (T := TX6) (N := 8) hx hb hts (by decide +kernel) hown hK hP 0 rfl rfl 0 (by decide) (hts (.fieldLink RX6 10 "BreakSetter" "tape" "LBreakSetter$Tape;") (by decide +kernel)) (fun _ h9 => h9) rfl dX6_feed_13 ?_
    refine lv_iload_n hx hb dX6_feed_16 rfl (lv_at hl 1 rfl) ?_
    refine CV_callVp (As := [.int (iI (z1))]) (rest := []) (wn := fun _ => wBS q C lf ++ wTp q C (len + 4) (lay4 bs len z1)) ⟨hx, hb, hml, hown, hts⟩ (c_X4_append (by omega) (by omega)) (cwV 1 hts gX6_feed_X4_append rfl rfl rfl (by decide +kernel) ⟨Nat.le_of_ble_eq_true rfl, Nat.le_of_ble_eq_true rfl⟩) (q0 := 0) rfl rfl rfl hK hNW hP hD hS hA (List.perm_append_comm (l₁ := wBS q C lf) (l₂ := wTp q C len bs)) (fun _ => List.perm_append_comm) rfl hl.1 rfl (Nat.le_of_ble_eq_true rfl) dX6_feed_17 ⟨Nat.zero_le _, Nat.zero_le _⟩ (fun u9 H locs hw9 hP hD hS => ?_)
    have hP : va_P D vwCl (wBS q C lf ++ wTp q C (len + 4) (lay4 bs len z1)) H := hP
    have hD : va_D A (wBS q C lf ++ wTp q C (len + 4) (lay4 bs len z1)) := hD
    refine lv_aload_n hx hb dX6_feed_20 rfl (lv_at hl 0 rfl) ?_
    refine va_get (D := D) (ci := 6) (v := .ref (q 1)) (C := RX6) (T := TX6) (N := 8) hx hb hts (by decide +kernel) hown hK hP 0 rfl rfl 0 (by decide) (hts (.fieldLink RX6 10 "BreakSetter" "tape" "LBreakSetter$Tape;") (by decide +kernel)) (fun _ h9 => h9) rfl dX6_feed_21 ?_
    refine lv_iload_n hx hb dX6_feed_24 rfl (lv_at hl 2 rfl) ?_
    refine CV_callVp (As := [.int (iI (z2))]) (rest := []) (wn := fun _ => wBS q C lf ++ wTp q C ((len + 4) + 4) (lay4 (lay4 bs len z1) (len + 4) z2)) ⟨hx, hb, hml, hown, hts⟩ (c_X4_append (by omega) (by omega)) (cwV 1 hts gX6_feed_X4_append rfl rfl rfl (by decide +kernel) ⟨Nat.le_of_ble_eq_true rfl, Nat.le_of_ble_eq_true rfl⟩) (q0 := 0) rfl rfl rfl hK hNW hP hD hS hA (List.perm_append_comm (l₁ := wBS q C lf) (l₂ := wTp q C (len + 4) (lay4 bs len z1))) (fun _ => List.perm_append_comm) rfl hl.1 rfl (Nat.le_of_ble_eq_true rfl) dX6_feed_25 ⟨Nat.zero_le _, Nat.zero_le _⟩ (fun u9 H locs hw9 hP hD hS => ?_)
    have hP : va_P D vwCl (wBS q C lf ++ wTp q C ((len + 4) + 4) (lay4 (lay4 bs len z1) (len + 4) z2)) H := hP
    have hD : va_D A (wBS q C lf ++ wTp q C ((len + 4) + 4) (lay4 (lay4 bs len z1) (len + 4) z2)) := hD
    refine lv_aload_n hx hb dX6_feed_28 rfl (lv_at hl 0 rfl) ?_
    refine va_get (D := D) (ci := 6) (v := .ref (q 1)) (C := RX6) (T := TX6) (N := 8) hx hb hts (by decide +kernel) hown hK hP 0 rfl rfl 0 (by decide) (hts (.fieldLink RX6 10 "BreakSetter" "tape" "LBreakSetter$Tape;") (by decide +kernel)) (fun _ h9 => h9) rfl dX6_feed_29 ?_
    refine lv_iload_n hx hb dX6_feed_32 rfl (lv_at hl 3 rfl) ?_
    refine CV_callVp (As := [.int (iI (z3))]) (rest := []) (wn := fun _ => wBS q C lf ++ wTp q C (((len + 4) + 4) + 4) (lay4 (lay4 (lay4 bs len z1) (len + 4) z2) ((len + 4) + 4) z3)) ⟨hx, hb, hml, hown, hts⟩ (c_X4_append (by omega) (by omega)) (cwV 1 hts gX6_feed_X4_append rfl rfl rfl (by decide +kernel) ⟨Nat.le_of_ble_eq_true rfl, Nat.le_of_ble_eq_true rfl⟩) (q0 := 0) rfl rfl rfl hK hNW hP hD hS hA (List.perm_append_comm (l₁ := wBS q C lf) (l₂ := wTp q C ((len + 4) + 4) (lay4 (lay4 bs len z1) (len + 4) z2))) (fun _ => List.perm_append_comm) rfl hl.1 rfl (Nat.le_of_ble_eq_true rfl) dX6_feed_33 ⟨Nat.zero_le _, Nat.zero_le _⟩ (fun u9 H locs hw9 hP hD hS => ?_)
    have hP : va_P D vwCl (wBS q C lf ++ wTp q C (((len + 4) + 4) + 4) (lay4 (lay4 (lay4 bs len z1) (len + 4) z2) ((len + 4) + 4) z3)) H := hP
    have hD : va_D A (wBS q C lf ++ wTp q C (((len + 4) + 4) + 4) (lay4 (lay4 (lay4 bs len z1) (len + 4) z2) ((len + 4) + 4) z3)) := hD
    refine lv_aload_n hx hb dX6_feed_36 rfl (lv_at hl 0 rfl) ?_
    refine va_get (D := D) (ci := 6) (v := .ref (q 1)) (C := RX6) (T := TX6) (N := 8) hx hb hts (by decide +kernel) hown hK hP 0 rfl rfl 0 (by decide) (hts (.fieldLink RX6 10 "BreakSetter" "tape" "LBreakSetter$Tape;") (by decide +kernel)) (fun _ h9 => h9) rfl dX6_feed_37 ?_
    refine lv_iload hx hb dX6_feed_40 (lv_at hl 4 rfl) ?_
    refine CV_callVp (As := [.int (iI (z4))]) (rest := []) (wn := fun _ => wBS q C lf ++ wTp q C ((((len + 4) + 4) + 4) + 4) (lay4 (lay4 (lay4 (lay4 bs len z1) (len + 4) z2) ((len + 4) + 4) z3) (((len + 4) + 4) + 4) z4)) ⟨hx, hb, hml, hown, hts⟩ (c_X4_append (by omega) (by omega)) (cwV 1 hts gX6_feed_X4_append rfl rfl rfl (by decide +kernel) ⟨Nat.le_of_ble_eq_true rfl, Nat.le_of_ble_eq_true rfl⟩) (q0 := 0) rfl rfl rfl hK hNW hP hD hS hA (List.perm_append_comm (l₁ := wBS q C lf) (l₂ := wTp q C (((len + 4) + 4) + 4) (lay4 (lay4 (lay4 bs len z1) (len + 4) z2) ((len + 4) + 4) z3))) (fun _ => List.perm_append_comm) rfl hl.1 rfl (Nat.le_of_ble_eq_true rfl) dX6_feed_42 ⟨Nat.zero_le _, Nat.zero_le _⟩ (fun u9 H locs hw9 hP hD hS => ?_)
    have hP : va_P D vwCl (wBS q C lf ++ wTp q C ((((len + 4) + 4) + 4) + 4) (lay4 (lay4 (lay4 (lay4 bs len z1) (len + 4) z2) ((len + 4) + 4) z3) (((len + 4) + 4) + 4) z4)) H := hP
    have hD : va_D A (wBS q C lf ++ wTp q C ((((len + 4) + 4) + 4) + 4) (lay4 (lay4 (lay4 (lay4 bs len z1) (len + 4) z2) ((len + 4) + 4) z3) (((len + 4) + 4) + 4) z4)) := hD
    refine lv_aload_n hx hb dX6_feed_45 rfl (lv_at hl 0 rfl) ?_
    refine va_get (D := D) (ci := 6) (v := .ref (q 1)) (C := RX6) (T := TX6) (N := 8) hx hb hts (by decide +kernel) hown hK hP 0 rfl rfl 0 (by decide) (hts (.fieldLink RX6 10 "BreakSetter" "tape" "LBreakSetter$Tape;") (by decide +kernel)) (fun _ h9 => h9) rfl dX6_feed_46 ?_
    refine lv_iload hx hb dX6_feed_49 (lv_at hl 5 rfl) ?_
    refine CV_callVp (As := [.int (iI (z5))]) (rest := []) (wn := fun _ => wBS q C lf ++ wTp q C (((((len + 4) + 4) + 4) + 4) + 4) (lay4 (lay4 (lay4 (lay4 (lay4 bs len z1) (len + 4) z2) ((len + 4) + 4) z3) (((len + 4) + 4) + 4) z4) ((((len + 4) + 4) + 4) + 4) z5)) ⟨hx, hb, hml, hown, hts⟩ (c_X4_append (by omega) (by omega)) (cwV 1 hts gX6_feed_X4_append rfl rfl rfl (by decide +kernel) ⟨Nat.le_of_ble_eq_true rfl, Nat.le_of_ble_eq_true rfl⟩) (q0 := 0) rfl rfl rfl hK hNW hP hD hS hA (List.perm_append_comm (l₁ := wBS q C lf) (l₂ := wTp q C ((((len + 4) + 4) + 4) + 4) (lay4 (lay4 (lay4 (lay4 bs len z1) (len + 4) z2) ((len + 4) + 4) z3) (((len + 4) + 4) + 4) z4))) (fun _ => List.perm_append_comm) rfl hl.1 rfl (Nat.le_of_ble_eq_true rfl) dX6_feed_51 ⟨Nat.zero_le _, Nat.zero_le _⟩ (fun u9 H locs hw9 hP hD hS => ?_)
    have hP : va_P D vwCl (wBS q C lf ++ wTp q C (((((len + 4) + 4) + 4) + 4) + 4) (lay4 (lay4 (lay4 (lay4 (lay4 bs len z1) (len + 4) z2) ((len + 4) + 4) z3) (((len + 4) + 4) + 4) z4) ((((len + 4) + 4) + 4) + 4) z5)) H := hP
    have hD : va_D A (wBS q C lf ++ wTp q C (((((len + 4) + 4) + 4) + 4) + 4) (lay4 (lay4 (lay4 (lay4 (lay4 bs len z1) (len + 4) z2) ((len + 4) + 4) z3) (((len + 4) + 4) + 4) z4) ((((len + 4) + 4) + 4) + 4) z5)) := hD
    refine lv_aload_n hx hb dX6_feed_54 rfl (lv_at hl 0 rfl) ?_
    refine va_get (D := D) (ci := 6) (v := .ref (q 1)) (C := RX6) (T := TX6) (N := 8) hx hb hts (by decide +kernel) hown hK hP 0 rfl rfl 0 (by decide) (hts (.fieldLink RX6 10 "BreakSetter" "tape" "LBreakSetter$Tape;") (by decide +kernel)) (fun _ h9 => h9) rfl dX6_feed_55 ?_
    refine va_get (D := D) (ci := 4) (v := .int (iI (((((len + 4) + 4) + 4) + 4) + 4))) (C := RX4) (T := TX4) (N := 2) hx hb hts (by decide +kernel) hown hK hP 1 rfl rfl 1 (by decide) (hts (.fieldLink RX6 72 "BreakSetter$Tape" "length" "I") (by decide +kernel)) (fun _ h9 => h9) rfl dX6_feed_58 ?_
    exact hret H locs ls 61 _ (((((len + 4) + 4) + 4) + 4) + 4, lay4 (lay4 (lay4 (lay4 (lay4 bs len z1) (len + 4) z2) ((len + 4) + 4) z3) (((len + 4) + 4) + 4) z4) ((((len + 4) + 4) + 4) + 4) z5) dX6_feed_61 ⟨by unfold feedF; rw [if_pos c7], by unfold feedF; rw [if_pos c7]; rfl⟩ hP hD hS
  · skip
    refine lv_iconst (v := iI (-1)) hx hb dX6_feed_10 rfl ?_
    exact hret s.heap [] ls 11 _ (len, bs) dX6_feed_11 ⟨by unfold feedF; rw [if_neg c7], by unfold feedF; rw [if_neg c7]⟩ hP hD hS

set_option maxHeartbeats 4000000 in
set_option maxRecDepth 100000 in
theorem c_X6_end {l : Launch} {D : va_G} {C : Nat → ClassId} {q : Nat → Nat} {lf len : Int} {bs : Int → Int} (hn : 0 ≤ len ∧ len ≤ 640) {zz : Int} (hz : R32 zz) : CI (S := Int) l yX6_end wsX6_end 1 21 D C [.ref (q 0), .int (iI (zz))] (wBS q C lf ++ wTp q C len bs) (fun u => wBS q C lf ++ wTp q C u bs) (fun r u => r = iI (bI (0 ≤ zz ∧ zz ≤ len)) ∧ u = if 0 ≤ zz ∧ zz ≤ len then zz else len) := by
  refine CZ_of (cc := cX6_end) (maxL := 2) (by decide) rfl (Nat.le_of_ble_eq_true rfl) ?_
  intro p e s m below meth c A Q ls hx hb hml hown hts hK hNW hA hl hP hD hS hret
  have hl : lv_has ls 2 [(0, .ref (q 0)), (1, .int (iI (zz)))] := hl
  refine lv_aload_n hx hb dX6_end_0 rfl (lv_at hl 0 rfl) ?_
  refine va_get (D := D) (ci := 6) (v := .ref (q 1)) (C := RX6) (T := TX6) (N := 8) hx hb hts (by decide +kernel) hown hK hP 0 rfl rfl 0 (by decide) (hts (.fieldLink RX6 10 "BreakSetter" "tape" "LBreakSetter$Tape;") (by decide +kernel)) (fun _ h9 => h9) rfl dX6_end_1 ?_
  refine lv_iload_n hx hb dX6_end_4 rfl (lv_at hl 1 rfl) ?_
  refine CI_callVp (As := [.int (iI (zz))]) (rest := []) (wn := fun u => wBS q C lf ++ wTp q C u bs) ⟨hx, hb, hml, hown, hts⟩ (c_X4_cutTo hn hz) (cwV 1 hts gX6_end_X4_cutTo rfl rfl rfl (by decide +kernel) ⟨Nat.le_of_ble_eq_true rfl, Nat.le_of_ble_eq_true rfl⟩) (q0 := 0) rfl rfl rfl hK hNW hP hD hS hA (List.perm_append_comm (l₁ := wBS q C lf) (l₂ := wTp q C len bs)) (fun _ => List.perm_append_comm) rfl hl.1 rfl (Nat.le_of_ble_eq_true rfl) dX6_end_5 ⟨Nat.zero_le _, Nat.zero_le _⟩ (fun r u9 H locs hw9 hP hD hS => ?_)
  have hP : va_P D vwCl (wBS q C lf ++ wTp q C u9 bs) H := hP
  have hD : va_D A (wBS q C lf ++ wTp q C u9 bs) := hD
  exact hret H locs ls 8 _ u9 dX6_end_8 (by rw [hw9.1]; exact bI_01 _) hw9 hP hD hS

set_option maxHeartbeats 4000000 in
set_option maxRecDepth 100000 in
theorem c_X6_relief {l : Launch} {D : va_G} {C : Nat → ClassId} {q : Nat → Nat} {wr : va_W} {g : Int → Int} (hw : RoW q C wr g) (hg : Wf g) {lf : Int} {hp nx : Int → Int} {pp tt : Int} (hp0 : R32 pp) (ht : R32 tt) : CI (S := (Int → Int) × (Int → Int)) l yX6_relief wsX6_relief 3 77 D C [.ref (q 0), .int (iI (pp)), .int (iI (tt))] (wBS q C lf ++ wWk q C hp nx ++ wr) (fun u => wBS q C lf ++ wWk q C (u.1) (u.2) ++ wr) (fun r u => r = iI (reliefF g pp tt)) := by
  obtain ⟨⟨⟨k16, ln, nd, h16⟩, ⟨k17, f17, h17, e17⟩, ⟨k18, f18, h18, e18⟩, ⟨k19, f19, h19, e19⟩, ⟨k20, f20, h20, e20⟩, ⟨k21, f21, h21, e21⟩, ⟨k22, f22, h22, e22⟩, ⟨k23, f23, h23, e23⟩, ⟨k24, f24, h24, e24⟩, ⟨k25, f25, h25, e25⟩, ⟨k26, f26, h26, e26⟩, ⟨k27, f27, h27, e27⟩⟩, ⟨k28, h28⟩, ⟨k29, f29, h29, e29⟩, ⟨k30, f30, h30, e30⟩⟩ := id hw
  refine CI_of (cc := cX6_relief) (maxL := 3) (by decide) rfl (Nat.le_of_ble_eq_true rfl) ?_
  intro p e s m below meth c A Q ls hx hb hml hown hts hK hNW hA hl hP hD hS hret
  have hl : lv_has ls 3 [(0, .ref (q 0)), (1, .int (iI (pp))), (2, .int (iI (tt)))] := hl
  have n := Wf_n hg
  refine lv_aload_n hx hb dX6_relief_0 rfl (lv_at hl 0 rfl) ?_
  refine va_get (D := D) (ci := 6) (v := .ref (q 16)) (C := RX6) (T := TX6) (N := 8) hx hb hts (by decide +kernel) hown hK hP 0 rfl rfl 3 (by decide) (hts (.fieldLink RX6 23 "BreakSetter" "plan" "LBreakSetter$Plan;") (by decide +kernel)) (fun _ h9 => h9) rfl dX6_relief_1 ?_
  refine lv_iload_n hx hb dX6_relief_4 rfl (lv_at hl 1 rfl) ?_
  refine CR_callV (As := [.int (iI (pp))]) (rest := []) ⟨hx, hb, hml, hown, hts⟩ (c_X1_hasPost (PlW_add hw.1 _) hg hp0) (cwV 1 hts gX6_relief_X1_hasPost rfl rfl rfl (by decide +kernel) ⟨Nat.le_of_ble_eq_true rfl, Nat.le_of_ble_eq_true rfl⟩) (q0 := (k16 + 4)) h16 rfl rfl hK hNW hP rfl hl.1 rfl (Nat.le_of_ble_eq_true rfl) dX6_relief_5 ⟨Nat.zero_le _, Nat.zero_le _⟩ ?_
  refine j_ifeqB (tgt := 23) hx hb dX6_relief_8 rfl (fun c8 => ?_) (fun c8 => ?_)
  · skip
    refine lv_iconst (v := iI (-1)) hx hb dX6_relief_23 rfl ?_
    exact hret s.heap [] ls 24 _ (hp, nx) dX6_relief_24 (by unfold reliefF; rw [if_neg (by omega)]) hP hD hS
  · skip
    refine lv_iload_n hx hb dX6_relief_11 rfl (lv_at hl 2 rfl) ?_
    refine lv_iconst (v := iI (-1)) hx hb dX6_relief_12 rfl ?_
    refine j_icmp_eq (tgt := 25) hx hb dX6_relief_13 rfl ht ⟨by decide, by decide⟩ (fun c13 => ?_) (fun c13 => ?_)
    · skip
      refine lv_aload_n hx hb dX6_relief_25 rfl (lv_at hl 0 rfl) ?_
      refine va_get (D := D) (ci := 6) (v := .ref (q 31)) (C := RX6) (T := TX6) (N := 8) hx hb hts (by decide +kernel) hown hK hP 0 rfl rfl 5 (by decide) (hts (.fieldLink RX6 49 "BreakSetter" "walker" "LBreakSetter$Walker;") (by decide +kernel)) (fun _ h9 => h9) rfl dX6_relief_26 ?_
      refine CV_callVp (As := []) (rest := []) (wn := fun u => wBS q C lf ++ wWk q C (u.1) (u.2) ++ wr) ⟨hx, hb, hml, hown, hts⟩ (c_X5_plotWays hw hg) (cwV 0 hts gX6_relief_X5_plotWays rfl rfl rfl (by decide +kernel) ⟨Nat.le_of_ble_eq_true rfl, Nat.le_of_ble_eq_true rfl⟩) (q0 := 0) rfl rfl rfl hK hNW hP hD hS hA (pm_ro (wBS q C lf) (wWk q C hp nx) wr) (fun u => (pm_ro (wBS q C lf) (wWk q C u.1 u.2) wr).symm) rfl hl.1 rfl (Nat.le_of_ble_eq_true rfl) dX6_relief_29 ⟨Nat.zero_le _, Nat.zero_le _⟩ (fun ⟨h9, n9⟩ H locs hw9 hP hD hS => ?_)
      have hP : va_P D vwCl (wBS q C lf ++ wWk q C h9 n9 ++ wr) H := hP
      have hD : va_D A (wBS q C lf ++ wWk q C h9 n9 ++ wr) := hD
      have hok : ∀ p x : Int, 0 ≤ p → p < g 0 → 0 ≤ x → x < 48 → h9 (p * 48 + x) = Vf g p x ∧ n9 (p * 48 + x) = (nxp g p x).2 := hw9
      refine lv_iload_n hx hb dX6_relief_32 rfl (lv_at hl 2 rfl) ?_
      refine lv_iconst (v := iI (-1)) hx hb dX6_relief_33 rfl ?_
      refine j_icmp_ne (tgt := 48) hx hb dX6_relief_34 rfl ht ⟨by decide, by decide⟩ (fun c34 => ?_) (fun c34 => ?_)
      · skip
        refine lv_aload_n hx hb dX6_relief_48 rfl (lv_at hl 0 rfl) ?_
        refine va_get (D := D) (ci := 6) (v := .ref (q 31)) (C := RX6) (T := TX6) (N := 8) hx hb hts (by decide +kernel) hown hK hP 0 rfl rfl 5 (by decide) (hts (.fieldLink RX6 49 "BreakSetter" "walker" "LBreakSetter$Walker;") (by decide +kernel)) (fun _ h9 => h9) rfl dX6_relief_49 ?_
        refine lv_iload_n hx hb dX6_relief_52 rfl (lv_at hl 1 rfl) ?_
        refine lv_iload_n hx hb dX6_relief_53 rfl (lv_at hl 2 rfl) ?_
        refine CR_callV (As := [.int (iI (pp)), .int (iI (tt))]) (rest := []) ⟨hx, hb, hml, hown, hts⟩ (c_X5_postOnWay ⟨⟨1, rfl⟩, ⟨2, rfl⟩, ⟨3, rfl⟩⟩ (PlW_add hw.1 _) hg (fun p x a b c d => (hok p x a b c d).2) c8 ⟨by omega, by omega⟩) (cwV 2 hts gX6_relief_X5_postOnWay rfl rfl rfl (by decide +kernel) ⟨Nat.le_of_ble_eq_true rfl, Nat.le_of_ble_eq_true rfl⟩) (q0 := 1) rfl rfl rfl hK hNW hP rfl hl.1 rfl (Nat.le_of_ble_eq_true rfl) dX6_relief_54 ⟨Nat.zero_le _, Nat.zero_le _⟩ ?_
        exact hret H locs ls 57 _ (h9, n9) dX6_relief_57 (by unfold reliefF; rw [if_pos ⟨⟨by omega, by omega⟩, by omega⟩]; first | (rw [if_pos c34]; done) | (rw [if_neg c34]; rfl; done)) hP hD hS
      · skip
        refine lv_aload_n hx hb dX6_relief_37 rfl (lv_at hl 0 rfl) ?_
        refine va_get (D := D) (ci := 6) (v := .ref (q 31)) (C := RX6) (T := TX6) (N := 8) hx hb hts (by decide +kernel) hown hK hP 0 rfl rfl 5 (by decide) (hts (.fieldLink RX6 49 "BreakSetter" "walker" "LBreakSetter$Walker;") (by decide +kernel)) (fun _ h9 => h9) rfl dX6_relief_38 ?_
        refine lv_iload_n hx hb dX6_relief_41 rfl (lv_at hl 1 rfl) ?_
        refine CR_callV (As := [.int (iI (pp))]) (rest := []) ⟨hx, hb, hml, hown, hts⟩ (c_X5_helpFrom ⟨⟨1, rfl⟩, ⟨2, rfl⟩, ⟨3, rfl⟩⟩ (by omega)) (cwV 1 hts gX6_relief_X5_helpFrom rfl rfl rfl (by decide +kernel) ⟨Nat.le_of_ble_eq_true rfl, Nat.le_of_ble_eq_true rfl⟩) (q0 := 1) rfl rfl rfl hK hNW hP rfl hl.1 rfl (Nat.le_of_ble_eq_true rfl) dX6_relief_42 ⟨Nat.zero_le _, Nat.zero_le _⟩ ?_
        refine W_wen (y := iI (Vf g pp 0)) (congrArg iI (hok pp 0 (by omega) (by omega) (by omega) (by omega)).1) ?_
        refine lv_goto (tgt := 57) hx hb dX6_relief_45 rfl ?_
        exact hret H locs ls 57 _ (h9, n9) dX6_relief_57 (by unfold reliefF; rw [if_pos ⟨⟨by omega, by omega⟩, by omega⟩]; first | (rw [if_pos c34]; done) | (rw [if_neg c34]; rfl; done)) hP hD hS
    · skip
      refine lv_iload_n hx hb dX6_relief_16 rfl (lv_at hl 2 rfl) ?_
      refine CR_callS (As := [.int (iI (tt))]) (rest := []) ⟨hx, hb, hml, hown, hts⟩ (c_X6_isSlot ht) (cwS 1 hts gX6_relief_X6_isSlot rfl rfl rfl (by decide +kernel) ⟨Nat.le_of_ble_eq_true rfl, Nat.le_of_ble_eq_true rfl⟩) hK hNW hP rfl hl.1 rfl (Nat.le_of_ble_eq_true rfl) dX6_relief_17 ⟨Nat.zero_le _, Nat.zero_le _⟩ ?_
      refine j_ifneB (tgt := 25) hx hb dX6_relief_20 rfl (fun c20 => ?_) (fun c20 => ?_)
      · skip
        refine lv_aload_n hx hb dX6_relief_25 rfl (lv_at hl 0 rfl) ?_
        refine va_get (D := D) (ci := 6) (v := .ref (q 31)) (C := RX6) (T := TX6) (N := 8) hx hb hts (by decide +kernel) hown hK hP 0 rfl rfl 5 (by decide) (hts (.fieldLink RX6 49 "BreakSetter" "walker" "LBreakSetter$Walker;") (by decide +kernel)) (fun _ h9 => h9) rfl dX6_relief_26 ?_
        refine CV_callVp (As := []) (rest := []) (wn := fun u => wBS q C lf ++ wWk q C (u.1) (u.2) ++ wr) ⟨hx, hb, hml, hown, hts⟩ (c_X5_plotWays hw hg) (cwV 0 hts gX6_relief_X5_plotWays rfl rfl rfl (by decide +kernel) ⟨Nat.le_of_ble_eq_true rfl, Nat.le_of_ble_eq_true rfl⟩) (q0 := 0) rfl rfl rfl hK hNW hP hD hS hA (pm_ro (wBS q C lf) (wWk q C hp nx) wr) (fun u => (pm_ro (wBS q C lf) (wWk q C u.1 u.2) wr).symm) rfl hl.1 rfl (Nat.le_of_ble_eq_true rfl) dX6_relief_29 ⟨Nat.zero_le _, Nat.zero_le _⟩ (fun ⟨h9, n9⟩ H locs hw9 hP hD hS => ?_)
        have hP : va_P D vwCl (wBS q C lf ++ wWk q C h9 n9 ++ wr) H := hP
        have hD : va_D A (wBS q C lf ++ wWk q C h9 n9 ++ wr) := hD
        have hok : ∀ p x : Int, 0 ≤ p → p < g 0 → 0 ≤ x → x < 48 → h9 (p * 48 + x) = Vf g p x ∧ n9 (p * 48 + x) = (nxp g p x).2 := hw9
        refine lv_iload_n hx hb dX6_relief_32 rfl (lv_at hl 2 rfl) ?_
        refine lv_iconst (v := iI (-1)) hx hb dX6_relief_33 rfl ?_
        refine j_icmp_ne (tgt := 48) hx hb dX6_relief_34 rfl ht ⟨by decide, by decide⟩ (fun c34 => ?_) (fun c34 => ?_)
        · skip
          refine lv_aload_n hx hb dX6_relief_48 rfl (lv_at hl 0 rfl) ?_
          refine va_get (D := D) (ci := 6) (v := .ref (q 31)) (C := RX6) (T := TX6) (N := 8) hx hb hts (by decide +kernel) hown hK hP 0 rfl rfl 5 (by decide) (hts (.fieldLink RX6 49 "BreakSetter" "walker" "LBreakSetter$Walker;") (by decide +kernel)) (fun _ h9 => h9) rfl dX6_relief_49 ?_
          refine lv_iload_n hx hb dX6_relief_52 rfl (lv_at hl 1 rfl) ?_
          refine lv_iload_n hx hb dX6_relief_53 rfl (lv_at hl 2 rfl) ?_
          refine CR_callV (As := [.int (iI (pp)), .int (iI (tt))]) (rest := []) ⟨hx, hb, hml, hown, hts⟩ (c_X5_postOnWay ⟨⟨1, rfl⟩, ⟨2, rfl⟩, ⟨3, rfl⟩⟩ (PlW_add hw.1 _) hg (fun p x a b c d => (hok p x a b c d).2) c8 ⟨by omega, by omega⟩) (cwV 2 hts gX6_relief_X5_postOnWay rfl rfl rfl (by decide +kernel) ⟨Nat.le_of_ble_eq_true rfl, Nat.le_of_ble_eq_true rfl⟩) (q0 := 1) rfl rfl rfl hK hNW hP rfl hl.1 rfl (Nat.le_of_ble_eq_true rfl) dX6_relief_54 ⟨Nat.zero_le _, Nat.zero_le _⟩ ?_
          exact hret H locs ls 57 _ (h9, n9) dX6_relief_57 (by unfold reliefF; rw [if_pos ⟨⟨by omega, by omega⟩, by omega⟩]; first | (rw [if_pos c34]; done) | (rw [if_neg c34]; rfl; done)) hP hD hS
        · skip
          refine lv_aload_n hx hb dX6_relief_37 rfl (lv_at hl 0 rfl) ?_
          refine va_get (D := D) (ci := 6) (v := .ref (q 31)) (C := RX6) (T := TX6) (N := 8) hx hb hts (by decide +kernel) hown hK hP 0 rfl rfl 5 (by decide) (hts (.fieldLink RX6 49 "BreakSetter" "walker" "LBreakSetter$Walker;") (by decide +kernel)) (fun _ h9 => h9) rfl dX6_relief_38 ?_
          refine lv_iload_n hx hb dX6_relief_41 rfl (lv_at hl 1 rfl) ?_
          refine CR_callV (As := [.int (iI (pp))]) (rest := []) ⟨hx, hb, hml, hown, hts⟩ (c_X5_helpFrom ⟨⟨1, rfl⟩, ⟨2, rfl⟩, ⟨3, rfl⟩⟩ (by omega)) (cwV 1 hts gX6_relief_X5_helpFrom rfl rfl rfl (by decide +kernel) ⟨Nat.le_of_ble_eq_true rfl, Nat.le_of_ble_eq_true rfl⟩) (q0 := 1) rfl rfl rfl hK hNW hP rfl hl.1 rfl (Nat.le_of_ble_eq_true rfl) dX6_relief_42 ⟨Nat.zero_le _, Nat.zero_le _⟩ ?_
          refine W_wen (y := iI (Vf g pp 0)) (congrArg iI (hok pp 0 (by omega) (by omega) (by omega) (by omega)).1) ?_
          refine lv_goto (tgt := 57) hx hb dX6_relief_45 rfl ?_
          exact hret H locs ls 57 _ (h9, n9) dX6_relief_57 (by unfold reliefF; rw [if_pos ⟨⟨by omega, by omega⟩, by omega⟩]; first | (rw [if_pos c34]; done) | (rw [if_neg c34]; rfl; done)) hP hD hS
      · skip
        refine lv_iconst (v := iI (-1)) hx hb dX6_relief_23 rfl ?_
        exact hret s.heap [] ls 24 _ (hp, nx) dX6_relief_24 (by unfold reliefF; rw [if_neg (by omega)]) hP hD hS
