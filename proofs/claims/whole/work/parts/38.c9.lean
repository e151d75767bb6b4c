theorem PlW_same {q : Nat → Nat} {C : Nat → ClassId} {w : va_W} {g h : Int → Int} (hw : PlW q C w g) (hg : Wf g) (e : SameP g h) : PlW q C w h := by
  have n := Wf_n hg
  have lo : ∀ j : Int, j < 192 → h j = g j := fun j hj => SameP_lo e hj
  have md : ∀ k : Int, h (188 + 5 * k) = g (188 + 5 * k) ∧ h (189 + 5 * k) = g (189 + 5 * k) ∧ h (190 + 5 * k) = g (190 + 5 * k) ∧ h (191 + 5 * k) = g (191 + 5 * k) := fun k => ⟨e _ (fun x x0 x1 => by omega), e _ (fun x x0 x1 => by omega), e _ (fun x x0 x1 => by omega), e _ (fun x x0 x1 => by omega)⟩
  have ed : ∀ c : Int, dtc h c = dtc g c := fun c => by
    unfold dtc onD
    rw [lo 2 (by omega)]
    unfold smI
    refine sm_cong (fun s a b => ?_)
    unfold dq
    rw [lo _ (by omega), lo _ (by omega), lo _ (by omega)]
  obtain ⟨⟨k16, ln, nd, h16⟩, ⟨k17, f17, h17, e17⟩, ⟨k18, f18, h18, e18⟩, ⟨k19, f19, h19, e19⟩, ⟨k20, f20, h20, e20⟩, ⟨k21, f21, h21, e21⟩, ⟨k22, f22, h22, e22⟩, ⟨k23, f23, h23, e23⟩, ⟨k24, f24, h24, e24⟩, ⟨k25, f25, h25, e25⟩, ⟨k26, f26, h26, e26⟩, ⟨k27, f27, h27, e27⟩⟩ := hw
  unfold PlW
  rw [lo 0 (by omega), lo 1 (by omega), lo 2 (by omega), lo 3 (by omega)]
  exact ⟨⟨k16, ln, nd, h16⟩, ⟨k17, f17, h17, fun c a b => by rw [lo _ (by omega)]; exact e17 c a b⟩, ⟨k18, f18, h18, fun c a b => by rw [ed]; exact e18 c a b⟩, ⟨k19, f19, h19, fun s a b => by rw [lo _ (by omega)]; exact e19 s a b⟩, ⟨k20, f20, h20, fun s a b => by rw [lo _ (by omega)]; exact e20 s a b⟩, ⟨k21, f21, h21, fun s a b => by rw [lo _ (by omega)]; exact e21 s a b⟩, ⟨k22, f22, h22, fun s a b => by rw [lo _ (by omega)]; exact e22 s a b⟩, ⟨k23, f23, h23, fun s a b => by rw [lo _ (by omega)]; exact e23 s a b⟩, ⟨k24, f24, h24, fun s a b => by rw [(md s).1]; exact e24 s a b⟩, ⟨k25, f25, h25, fun s a b => by rw [(md s).2.1]; exact e25 s a b⟩, ⟨k26, f26, h26, fun s a b => by rw [(md s).2.2.1]; exact e26 s a b⟩, ⟨k27, f27, h27, fun s a b => by rw [(md s).2.2.2]; exact e27 s a b⟩⟩
theorem wy_bt {h : Int → Int} (hh : Wf h) {k t : Int} (e : betterOf h = 100 * k + t) (k0 : 0 ≤ k) (k1 : k < h 3) (t0 : 0 ≤ t) (t1 : t < 48) (hb : ¬ betterOf h = -2) : h (190 + 5 * k) ≤ t ∧ t ≤ h (191 + 5 * k) := by
  rcases betterOf_rng hh with a | ⟨k', t', a, b, c, d, f, i⟩
  · exact absurd a hb
  · have p := Wf_p hh b c
    have ek : k' = k := by omega
    have et : t' = t := by omega
    rw [ek, et] at d
    rw [ek, et] at f
    exact ⟨d, f⟩
set_option maxHeartbeats 4000000 in
set_option maxRecDepth 100000 in
theorem c_X6_fill {l : Launch} {D : va_G} {C : Nat → ClassId} {q : Nat → Nat} {wp : va_W} {g : Int → Int} (hw : PlW q C wp g) (hg : Wf g) {lf : Int} {rows pla cv : Int → Int} {nr cn : Int} (hn : 0 ≤ nr ∧ nr < 10) (hc : 0 ≤ cn ∧ cn ≤ 10) (hR : Ro3 g (SF g, pla, cv))  : CI (S := (Int → Int) × Int × Int × Int × (Int → Int) × (Int → Int)) l yX6_fill wsX6_fill 5 113 D C [.ref (q 0)] (wBS q C lf ++ wHi q C rows nr cn ++ wRo q C (SF g) pla cv ++ wp) (fun u => wBS q C lf ++ wHi q C (u.1) (u.2.1) (u.2.2.1) ++ wRo q C (u.2.2.2.1) (u.2.2.2.2.1) (u.2.2.2.2.2) ++ wp) (fun r u => r = iI (fillF cn g g).1 ∧ Ro3 (fillF cn g g).2.2.1 u.2.2.2 ∧ HKp (True) pla rows nr cn u.1 u.2.1 u.2.2.1) := by
  obtain ⟨⟨k16, ln, nd, h16⟩, ⟨k17, f17, h17, e17⟩, ⟨k18, f18, h18, e18⟩, ⟨k19, f19, h19, e19⟩, ⟨k20, f20, h20, e20⟩, ⟨k21, f21, h21, e21⟩, ⟨k22, f22, h22, e22⟩, ⟨k23, f23, h23, e23⟩, ⟨k24, f24, h24, e24⟩, ⟨k25, f25, h25, e25⟩, ⟨k26, f26, h26, e26⟩, ⟨k27, f27, h27, e27⟩⟩ := id hw
  refine CI_of (cc := cX6_fill) (maxL := 4) (by decide) rfl (Nat.le_of_ble_eq_true rfl) ?_
  intro p e s m below meth c A Q ls hx hb hml hown hts hK hNW hA hl hP hD hS hret
  have hl : lv_has ls 4 [(0, .ref (q 0))] := hl
  have n := Wf_n hg
  refine lv_aload_n hx hb dX6_fill_0 rfl (lv_at hl 0 rfl) ?_
  refine va_get (D := D) (ci := 6) (v := .ref (q 34)) (C := RX6) (T := TX6) (N := 8) hx hb hts (by decide +kernel) hown hK hP 0 rfl rfl 6 (by decide) (hts (.fieldLink RX6 56 "BreakSetter" "history" "LBreakSetter$History;") (by decide +kernel)) (fun _ h9 => h9) rfl dX6_fill_1 ?_
  refine lv_aload_n hx hb dX6_fill_4 rfl (lv_at hl 0 rfl) ?_
  refine va_get (D := D) (ci := 6) (v := .ref (q 28)) (C := RX6) (T := TX6) (N := 8) hx hb hts (by decide +kernel) hown hK hP 0 rfl rfl 4 (by decide) (hts (.fieldLink RX6 40 "BreakSetter" "roster" "LBreakSetter$Roster;") (by decide +kernel)) (fun _ h9 => h9) rfl dX6_fill_5 ?_
  refine va_get (D := D) (ci := 3) (v := .ref (q 29)) (C := RX3) (T := TX3) (N := 4) hx hb hts (by decide +kernel) hown hK hP 3 rfl rfl 1 (by decide) (hts (.fieldLink RX6 162 "BreakSetter$Roster" "places" "[I") (by decide +kernel)) (fun _ h9 => h9) rfl dX6_fill_8 ?_
  refine CV_callVp (As := [.ref (q 29)]) (rest := []) (wn := fun u => wBS q C lf ++ wHi q C (cpy pla rows 0 (nr * 24) 24) u (min (cn + 1) 10) ++ wRo q C (SF g) pla cv ++ wp) ⟨hx, hb, hml, hown, hts⟩ (c_X0_keep hn hc) (cwV 1 hts gX6_fill_X0_keep rfl rfl rfl (by decide +kernel) ⟨Nat.le_of_ble_eq_true rfl, Nat.le_of_ble_eq_true rfl⟩) (q0 := 0) rfl rfl rfl hK hNW hP hD hS hA (pm_keep q C lf rows nr cn (SF g) pla cv wp) (fun u => (pm_keep q C lf _ u _ (SF g) pla cv wp).symm) rfl hl.1 rfl (Nat.le_of_ble_eq_true rfl) dX6_fill_11 ⟨Nat.zero_le _, Nat.zero_le _⟩ (fun nr1 H locs hw9 hP hD hS => ?_)
  have hP : va_P D vwCl (wBS q C lf ++ wHi q C (cpy pla rows 0 (nr * 24) 24) nr1 (min (cn + 1) 10) ++ wRo q C (SF g) pla cv ++ wp) H := hP
  have hD : va_D A (wBS q C lf ++ wHi q C (cpy pla rows 0 (nr * 24) 24) nr1 (min (cn + 1) 10) ++ wRo q C (SF g) pla cv ++ wp) := hD
  have hk1 : nr1 = if nr = 9 then 0 else nr + 1 := hw9
  refine lv_iconst (v := iI (0)) hx hb dX6_fill_14 rfl ?_
  refine lv_istore_n (lv' := [(1, .int (iI (0))), (0, .ref (q 0))]) hx hb dX6_fill_15 rfl hl (by decide) rfl (fun ls hl => ?_)
  refine lv_iconst (v := iI (0)) hx hb dX6_fill_16 rfl ?_
  refine lv_istore_n (lv' := [(2, .int (iI (0))), (1, .int (iI (0))), (0, .ref (q 0))]) hx hb dX6_fill_17 rfl hl (by decide) rfl (fun ls hl => ?_)
  have L18 : ∀ (n : Nat) (i : Int) (ct : Int) (h : Int → Int) (s2 : Int) (p2 : Int → Int) (c2 : Int → Int) (ls : Array Slot) (H : Heap) (locs : List Loc), (0 ≤ i ∧ i ≤ g 3) → (ct = (flg g i.toNat).1) → (h = (flg g i.toNat).2) → (Ro3 h (s2, p2, c2)) → ((g 3 - i).toNat < n) → (lv_has ls 4 [(2, .int (iI (i))), (1, .int (iI (ct))), (0, .ref (q 0))]) → (va_P D vwCl (wBS q C lf ++ wHi q C (cpy pla rows 0 (nr * 24) 24) nr1 (min (cn + 1) 10) ++ wRo q C s2 p2 c2 ++ wp) H) → (va_D A (wBS q C lf ++ wHi q C (cpy pla rows 0 (nr * 24) 24) nr1 (min (cn + 1) 10) ++ wRo q C s2 p2 c2 ++ wp)) → (va_S A s.heap H locs) → W p l e (rmN 5 113) s m ([.ref (q 0)] : List Value).toArray below meth c H locs 0 0 Q (F0 m 18 ls []) := by
    intro n
    induction n with
    | zero => intro i ct h s2 p2 c2 ls H locs h1 h2 h3 h4 hn; exact absurd hn (Nat.not_lt_zero _)
    | succ n ih18 =>
      intro i ct h s2 p2 c2 ls H locs h1 h2 h3 h4 hn hl hP hD hS
      have hn18 := hn
      have hp : flg g i.toNat = (ct, h) := by rw [h2, h3]
      have ok := flg_ok hg i.toNat (by omega)
      rw [hp] at ok
      obtain ⟨hh, he, ok1, ok2⟩ := ok
      have hh : Wf h := hh
      have he : SameP g h := he
      have ok1 : 0 ≤ ct := ok1
      have ok2 : ct ≤ (i.toNat : Int) := ok2
      have e3 := SameP_lo he (j := 3) (by omega)
      have hwh := PlW_same hw hg he
      have e5 : s2 = SF h := h4.1
      subst e5
      refine lv_iload_n hx hb dX6_fill_18 rfl (lv_at hl 0 rfl) ?_
      refine lv_aload_n hx hb dX6_fill_19 rfl (lv_at hl 2 rfl) ?_
      refine va_get (D := D) (ci := 6) (v := .ref (q 16)) (C := RX6) (T := TX6) (N := 8) hx hb hts (by decide +kernel) hown hK hP 0 rfl rfl 3 (by decide) (hts (.fieldLink RX6 23 "BreakSetter" "plan" "LBreakSetter$Plan;") (by decide +kernel)) (fun _ h9 => h9) rfl dX6_fill_20 ?_
      refine va_get (D := D) (ci := 1) (v := .int (iI (g 3))) (C := RX1) (T := TX1) (N := 17) hx hb hts (by decide +kernel) hown hK hP (k16 + 6) h16 rfl 5 (by decide) (hts (.fieldLink RX6 102 "BreakSetter$Plan" "pauses" "I") (by decide +kernel)) (fun _ h9 => h9) rfl dX6_fill_23 ?_
      refine j_icmp_ge (tgt := 75) hx hb dX6_fill_26 rfl ⟨by omega, by omega⟩ ⟨by omega, by omega⟩ (fun c26 => ?_) (fun c26 => ?_)
      · skip
        refine lv_iload_n hx hb dX6_fill_75 rfl (lv_at hl 1 rfl) ?_
        exact hret H locs ls 76 _ (cpy pla rows 0 (nr * 24) 24, nr1, min (cn + 1) 10, SF h, p2, c2) dX6_fill_76 ⟨congrArg iI (by rw [h2, show i = g 3 by omega]; rfl), by show Ro3 (flg g (g 3).toNat).2 _; rw [← show i = g 3 by omega, ← h3]; exact h4, HKp_yes trivial hk1⟩ hP hD hS
      · skip
        have b := Wf_p hh (k := i) (by omega) (by omega)
        refine lv_aload_n hx hb dX6_fill_29 rfl (lv_at hl 2 rfl) ?_
        refine va_get (D := D) (ci := 6) (v := .ref (q 28)) (C := RX6) (T := TX6) (N := 8) hx hb hts (by decide +kernel) hown hK hP 0 rfl rfl 4 (by decide) (hts (.fieldLink RX6 40 "BreakSetter" "roster" "LBreakSetter$Roster;") (by decide +kernel)) (fun _ h9 => h9) rfl dX6_fill_30 ?_
        refine va_get (D := D) (ci := 3) (v := .ref (q 29)) (C := RX3) (T := TX3) (N := 4) hx hb hts (by decide +kernel) hown hK hP 3 rfl rfl 1 (by decide) (hts (.fieldLink RX6 162 "BreakSetter$Roster" "places" "[I") (by decide +kernel)) (fun _ h9 => h9) rfl dX6_fill_33 ?_
        refine lv_iload_n hx hb dX6_fill_36 rfl (lv_at hl 0 rfl) ?_
        refine j_iald hx hb hK hP 4 1 rfl rfl ⟨by omega, by omega⟩ (Nat.le_of_ble_eq_true rfl) dX6_fill_37 ?_
        refine W_wen (y := iI (h (192 + 5 * i) - 1)) (congrArg iI (h4.2.1 i (by omega) (by omega))) ?_
        refine lv_iconst (v := iI (-1)) hx hb dX6_fill_38 rfl ?_
        refine j_icmp_ne (tgt := 69) hx hb dX6_fill_39 rfl ⟨by omega, by omega⟩ ⟨by decide, by decide⟩ (fun c39 => ?_) (fun c39 => ?_)
        · skip
          refine j_iinc (k := 0) (lv' := [(2, .int (iI (i + 1))), (1, .int (iI (ct))), (0, .ref (q 0))]) hx hb dX6_fill_69 hl rfl (by decide) rfl (fun ls hl => ?_)
          refine lv_goto (tgt := 18) hx hb dX6_fill_72 rfl ?_
          exact ih18 (i + 1) ct h (SF h) p2 c2 ls H locs (by omega) (by rw [flg_s h1.1, hp]; unfold fstep; (rw [if_pos c39]; done)) (by rw [flg_s h1.1, hp]; unfold fstep; (rw [if_pos c39]; done)) (by exact h4) (by omega) (lv_sub hl [0, 1, 2] rfl) hP hD hS
        · skip
          refine lv_aload_n hx hb dX6_fill_42 rfl (lv_at hl 2 rfl) ?_
          refine va_get (D := D) (ci := 6) (v := .ref (q 28)) (C := RX6) (T := TX6) (N := 8) hx hb hts (by decide +kernel) hown hK hP 0 rfl rfl 4 (by decide) (hts (.fieldLink RX6 40 "BreakSetter" "roster" "LBreakSetter$Roster;") (by decide +kernel)) (fun _ h9 => h9) rfl dX6_fill_43 ?_
          refine lv_iload_n hx hb dX6_fill_46 rfl (lv_at hl 0 rfl) ?_
          refine CR_callV (As := [.int (iI (i))]) (rest := []) ⟨hx, hb, hml, hown, hts⟩ (c_X3_findBestSlot (RoW_add (RoW_mk hwh h4) (wBS q C lf ++ wHi q C (cpy pla rows 0 (nr * 24) 24) nr1 (min (cn + 1) 10))) hh ⟨by omega, by omega⟩) (cwV 1 hts gX6_fill_X3_findBestSlot rfl rfl rfl (by decide +kernel) ⟨Nat.le_of_ble_eq_true rfl, Nat.le_of_ble_eq_true rfl⟩) (q0 := 3) rfl rfl rfl hK hNW hP rfl hl.1 rfl (Nat.le_of_ble_eq_true rfl) dX6_fill_47 ⟨Nat.zero_le _, Nat.zero_le _⟩ ?_
          refine lv_istore_n (lv' := [(3, .int (iI (bestOf h i))), (2, .int (iI (i))), (1, .int (iI (ct))), (0, .ref (q 0))]) hx hb dX6_fill_50 rfl hl (by decide) rfl (fun ls hl => ?_)
          have rb := bestOf_rng hh (k := i) (by omega) (by omega)
          refine lv_iload_n hx hb dX6_fill_51 rfl (lv_at hl 0 rfl) ?_
          refine lv_bipush (v := iI (-2)) hx hb dX6_fill_52 (by decide) ?_
          refine j_icmp_eq (tgt := 69) hx hb dX6_fill_54 rfl ⟨by omega, by omega⟩ ⟨by decide, by decide⟩ (fun c54 => ?_) (fun c54 => ?_)
          · skip
            refine j_iinc (k := 1) (lv' := [(2, .int (iI (i + 1))), (3, .int (iI (bestOf h i))), (1, .int (iI (ct))), (0, .ref (q 0))]) hx hb dX6_fill_69 hl rfl (by decide) rfl (fun ls hl => ?_)
            refine lv_goto (tgt := 18) hx hb dX6_fill_72 rfl ?_
            exact ih18 (i + 1) ct h (SF h) p2 c2 ls H locs (by omega) (by rw [flg_s h1.1, hp]; unfold fstep; first | (rw [if_pos c39]; done) | (rw [if_neg (fun q => q c39), if_pos c54]; done) | (rw [if_neg (fun q => q c39), if_neg c54]; done)) (by rw [flg_s h1.1, hp]; unfold fstep; first | (rw [if_pos c39]; done) | (rw [if_neg (fun q => q c39), if_pos c54]; done) | (rw [if_neg (fun q => q c39), if_neg c54]; done)) (by exact h4) (by omega) (lv_sub hl [0, 2, 3] rfl) hP hD hS
          · skip
            refine lv_aload_n hx hb dX6_fill_57 rfl (lv_at hl 3 rfl) ?_
            refine va_get (D := D) (ci := 6) (v := .ref (q 28)) (C := RX6) (T := TX6) (N := 8) hx hb hts (by decide +kernel) hown hK hP 0 rfl rfl 4 (by decide) (hts (.fieldLink RX6 40 "BreakSetter" "roster" "LBreakSetter$Roster;") (by decide +kernel)) (fun _ h9 => h9) rfl dX6_fill_58 ?_
            refine lv_iload_n hx hb dX6_fill_61 rfl (lv_at hl 1 rfl) ?_
            refine lv_iload_n hx hb dX6_fill_62 rfl (lv_at hl 0 rfl) ?_
            refine CV_callVp (As := [.int (iI (i)), .int (iI (bestOf h i))]) (rest := []) (wn := fun u => wBS q C lf ++ wHi q C (cpy pla rows 0 (nr * 24) 24) nr1 (min (cn + 1) 10) ++ wRo q C (u.1) (u.2.1) (u.2.2) ++ wp) ⟨hx, hb, hml, hown, hts⟩ (c_X3_moveTo hwh hh h4 ⟨by omega, by omega⟩ ⟨by omega, by omega⟩) (cwV 2 hts gX6_fill_X3_moveTo rfl rfl rfl (by decide +kernel) ⟨Nat.le_of_ble_eq_true rfl, Nat.le_of_ble_eq_true rfl⟩) (q0 := 0) rfl rfl rfl hK hNW hP hD hS hA (pm_ro (wBS q C lf ++ wHi q C (cpy pla rows 0 (nr * 24) 24) nr1 (min (cn + 1) 10)) (wRo q C (SF h) p2 c2) wp) (fun u => (pm_ro (wBS q C lf ++ wHi q C (cpy pla rows 0 (nr * 24) 24) nr1 (min (cn + 1) 10)) (wRo q C u.1 u.2.1 u.2.2) wp).symm) rfl hl.1 rfl (Nat.le_of_ble_eq_true rfl) dX6_fill_63 ⟨Nat.zero_le _, Nat.zero_le _⟩ (fun ⟨s1, p1, c1⟩ H locs hw9 hP hD hS => ?_)
            have hP : va_P D vwCl (wBS q C lf ++ wHi q C (cpy pla rows 0 (nr * 24) 24) nr1 (min (cn + 1) 10) ++ wRo q C s1 p1 c1 ++ wp) H := hP
            have hD : va_D A (wBS q C lf ++ wHi q C (cpy pla rows 0 (nr * 24) 24) nr1 (min (cn + 1) 10) ++ wRo q C s1 p1 c1 ++ wp) := hD
            have hm9 : Ro3 (lie h i (bestOf h i)) (s1, p1, c1) := hw9
            refine j_iinc (k := 2) (lv' := [(1, .int (iI (ct + 1))), (3, .int (iI (bestOf h i))), (2, .int (iI (i))), (0, .ref (q 0))]) hx hb dX6_fill_66 hl rfl (by decide) rfl (fun ls hl => ?_)
            refine j_iinc (k := 2) (lv' := [(2, .int (iI (i + 1))), (1, .int (iI (ct + 1))), (3, .int (iI (bestOf h i))), (0, .ref (q 0))]) hx hb dX6_fill_69 hl rfl (by decide) rfl (fun ls hl => ?_)
            refine lv_goto (tgt := 18) hx hb dX6_fill_72 rfl ?_
            exact ih18 (i + 1) (ct + 1) (lie h i (bestOf h i)) s1 p1 c1 ls H locs (by omega) (by rw [flg_s h1.1, hp]; unfold fstep; first | (rw [if_pos c39]; done) | (rw [if_neg (fun q => q c39), if_pos c54]; done) | (rw [if_neg (fun q => q c39), if_neg c54]; done)) (by rw [flg_s h1.1, hp]; unfold fstep; first | (rw [if_pos c39]; done) | (rw [if_neg (fun q => q c39), if_pos c54]; done) | (rw [if_neg (fun q => q c39), if_neg c54]; done)) (by first | exact hm9 | exact h4) (by omega) (lv_sub hl [0, 1, 3] rfl) hP hD hS
  exact L18 _ 0 0 g (SF g) pla cv ls H locs (by omega) rfl rfl hR (Nat.lt_succ_self _) (lv_sub hl [0, 1, 2] rfl) hP hD hS

set_option maxHeartbeats 4000000 in
set_option maxRecDepth 100000 in
theorem c_X6_settle {l : Launch} {D : va_G} {C : Nat → ClassId} {q : Nat → Nat} {wp : va_W} {g : Int → Int} (hw : PlW q C wp g) (hg : Wf g) {lf : Int} {rows pla cv : Int → Int} {nr cn : Int} (hn : 0 ≤ nr ∧ nr < 10) (hc : 0 ≤ cn ∧ cn ≤ 10) (hR : Ro3 g (SF g, pla, cv))  : CI (S := (Int → Int) × Int × Int × Int × (Int → Int) × (Int → Int)) l yX6_settle wsX6_settle 5 122 D C [.ref (q 0)] (wBS q C lf ++ wHi q C rows nr cn ++ wRo q C (SF g) pla cv ++ wp) (fun u => wBS q C lf ++ wHi q C (u.1) (u.2.1) (u.2.2.1) ++ wRo q C (u.2.2.2.1) (u.2.2.2.2.1) (u.2.2.2.2.2) ++ wp) (fun r u => r = iI (settleF cn g g).1 ∧ Ro3 (settleF cn g g).2.2.1 u.2.2.2 ∧ HKp (¬ betterOf g = -2) pla rows nr cn u.1 u.2.1 u.2.2.1) := by
  obtain ⟨⟨k16, ln, nd, h16⟩, ⟨k17, f17, h17, e17⟩, ⟨k18, f18, h18, e18⟩, ⟨k19, f19, h19, e19⟩, ⟨k20, f20, h20, e20⟩, ⟨k21, f21, h21, e21⟩, ⟨k22, f22, h22, e22⟩, ⟨k23, f23, h23, e23⟩, ⟨k24, f24, h24, e24⟩, ⟨k25, f25, h25, e25⟩, ⟨k26, f26, h26, e26⟩, ⟨k27, f27, h27, e27⟩⟩ := id hw
  refine CI_of (cc := cX6_settle) (maxL := 3) (by decide) rfl (Nat.le_of_ble_eq_true rfl) ?_
  intro p e s m below meth c A Q ls hx hb hml hown hts hK hNW hA hl hP hD hS hret
  have hl : lv_has ls 3 [(0, .ref (q 0))] := hl
  have n := Wf_n hg
  have r1 := betterOf_R hg
  refine lv_aload_n hx hb dX6_settle_0 rfl (lv_at hl 0 rfl) ?_
  refine va_get (D := D) (ci := 6) (v := .ref (q 28)) (C := RX6) (T := TX6) (N := 8) hx hb hts (by decide +kernel) hown hK hP 0 rfl rfl 4 (by decide) (hts (.fieldLink RX6 40 "BreakSetter" "roster" "LBreakSetter$Roster;") (by decide +kernel)) (fun _ h9 => h9) rfl dX6_settle_1 ?_
  refine CR_callV (As := []) (rest := []) ⟨hx, hb, hml, hown, hts⟩ (c_X3_findBestMove (RoW_add (RoW_mk hw hR) (wBS q C lf ++ wHi q C rows nr cn)) hg) (cwV 0 hts gX6_settle_X3_findBestMove rfl rfl rfl (by decide +kernel) ⟨Nat.le_of_ble_eq_true rfl, Nat.le_of_ble_eq_true rfl⟩) (q0 := 3) rfl rfl rfl hK hNW hP rfl hl.1 rfl (Nat.le_of_ble_eq_true rfl) dX6_settle_4 ⟨Nat.zero_le _, Nat.zero_le _⟩ ?_
  refine lv_istore_n (lv' := [(1, .int (iI (betterOf g))), (0, .ref (q 0))]) hx hb dX6_settle_7 rfl hl (by decide) rfl (fun ls hl => ?_)
  refine lv_iload_n hx hb dX6_settle_8 rfl (lv_at hl 0 rfl) ?_
  refine lv_bipush (v := iI (-2)) hx hb dX6_settle_9 (by decide) ?_
  refine j_icmp_ne (tgt := 16) hx hb dX6_settle_11 rfl r1 ⟨by decide, by decide⟩ (fun c11 => ?_) (fun c11 => ?_)
  · skip
    refine lv_aload_n hx hb dX6_settle_16 rfl (lv_at hl 1 rfl) ?_
    refine va_get (D := D) (ci := 6) (v := .ref (q 34)) (C := RX6) (T := TX6) (N := 8) hx hb hts (by decide +kernel) hown hK hP 0 rfl rfl 6 (by decide) (hts (.fieldLink RX6 56 "BreakSetter" "history" "LBreakSetter$History;") (by decide +kernel)) (fun _ h9 => h9) rfl dX6_settle_17 ?_
    refine lv_aload_n hx hb dX6_settle_20 rfl (lv_at hl 1 rfl) ?_
    refine va_get (D := D) (ci := 6) (v := .ref (q 28)) (C := RX6) (T := TX6) (N := 8) hx hb hts (by decide +kernel) hown hK hP 0 rfl rfl 4 (by decide) (hts (.fieldLink RX6 40 "BreakSetter" "roster" "LBreakSetter$Roster;") (by decide +kernel)) (fun _ h9 => h9) rfl dX6_settle_21 ?_
    refine va_get (D := D) (ci := 3) (v := .ref (q 29)) (C := RX3) (T := TX3) (N := 4) hx hb hts (by decide +kernel) hown hK hP 3 rfl rfl 1 (by decide) (hts (.fieldLink RX6 162 "BreakSetter$Roster" "places" "[I") (by decide +kernel)) (fun _ h9 => h9) rfl dX6_settle_24 ?_
    refine CV_callVp (As := [.ref (q 29)]) (rest := []) (wn := fun u => wBS q C lf ++ wHi q C (cpy pla rows 0 (nr * 24) 24) u (min (cn + 1) 10) ++ wRo q C (SF g) pla cv ++ wp) ⟨hx, hb, hml, hown, hts⟩ (c_X0_keep hn hc) (cwV 1 hts gX6_settle_X0_keep rfl rfl rfl (by decide +kernel) ⟨Nat.le_of_ble_eq_true rfl, Nat.le_of_ble_eq_true rfl⟩) (q0 := 0) rfl rfl rfl hK hNW hP hD hS hA (pm_keep q C lf rows nr cn (SF g) pla cv wp) (fun u => (pm_keep q C lf _ u _ (SF g) pla cv wp).symm) rfl hl.1 rfl (Nat.le_of_ble_eq_true rfl) dX6_settle_27 ⟨Nat.zero_le _, Nat.zero_le _⟩ (fun nr1 H locs hw9 hP hD hS => ?_)
    have hP : va_P D vwCl (wBS q C lf ++ wHi q C (cpy pla rows 0 (nr * 24) 24) nr1 (min (cn + 1) 10) ++ wRo q C (SF g) pla cv ++ wp) H := hP
    have hD : va_D A (wBS q C lf ++ wHi q C (cpy pla rows 0 (nr * 24) 24) nr1 (min (cn + 1) 10) ++ wRo q C (SF g) pla cv ++ wp) := hD
    have hk1 : nr1 = if nr = 9 then 0 else nr + 1 := hw9
    refine lv_iconst (v := iI (0)) hx hb dX6_settle_30 rfl ?_
    refine lv_istore_n (lv' := [(2, .int (iI (0))), (1, .int (iI (betterOf g))), (0, .ref (q 0))]) hx hb dX6_settle_31 rfl hl (by decide) rfl (fun ls hl => ?_)
    have L32 : ∀ (n : Nat) (i : Int) (bb : Int) (h : Int → Int) (s2 : Int) (p2 : Int → Int) (c2 : Int → Int) (ls : Array Slot) (H : Heap) (locs : List Loc), (0 ≤ i ∧ i ≤ 40) → ((stl g i.toNat).1 = i) → (h = (stl g i.toNat).2) → (Ro3 h (s2, p2, c2)) → (bb = betterOf h) → ((40 - i).toNat < n) → (lv_has ls 3 [(2, .int (iI (i))), (1, .int (iI (bb))), (0, .ref (q 0))]) → (va_P D vwCl (wBS q C lf ++ wHi q C (cpy pla rows 0 (nr * 24) 24) nr1 (min (cn + 1) 10) ++ wRo q C s2 p2 c2 ++ wp) H) → (va_D A (wBS q C lf ++ wHi q C (cpy pla rows 0 (nr * 24) 24) nr1 (min (cn + 1) 10) ++ wRo q C s2 p2 c2 ++ wp)) → (va_S A s.heap H locs) → W p l e (rmN 5 122) s m ([.ref (q 0)] : List Value).toArray below meth c H locs 0 0 Q (F0 m 32 ls []) := by
      intro n
      induction n with
      | zero => intro i bb h s2 p2 c2 ls H locs h1 h2 h3 h4 h5 hn; exact absurd hn (Nat.not_lt_zero _)
      | succ n ih32 =>
        intro i bb h s2 p2 c2 ls H locs h1 h2 h3 h4 h5 hn hl hP hD hS
        have hn32 := hn
        have ok := stl_ok hg i.toNat
        rw [← h3] at ok
        obtain ⟨hh, he, ok1, ok2⟩ := ok
        have n3 := Wf_n hh
        have r2 := betterOf_R hh
        have hwh := PlW_same hw hg he
        have e5 : s2 = SF h := h4.1
        subst e5
        refine lv_iload_n hx hb dX6_settle_32 rfl (lv_at hl 0 rfl) ?_
        refine lv_bipush (v := iI (40)) hx hb dX6_settle_33 (by decide) ?_
        refine j_icmp_ge (tgt := 73) hx hb dX6_settle_35 rfl ⟨by omega, by omega⟩ ⟨by decide, by decide⟩ (fun c35 => ?_) (fun c35 => ?_)
        · skip
          refine lv_iload_n hx hb dX6_settle_73 rfl (lv_at hl 0 rfl) ?_
          exact hret H locs ls 74 _ (cpy pla rows 0 (nr * 24) 24, nr1, min (cn + 1) 10, SF h, p2, c2) dX6_settle_74 (by unfold settleF; rw [if_neg c11]; (rw [show (40 : Nat) = i.toNat by omega]; exact ⟨congrArg iI h2.symm, by show Ro3 (stl g i.toNat).2 _; rw [← h3]; exact h4, HKp_yes c11 hk1⟩; done)) hP hD hS
        · skip
          refine lv_iload_n hx hb dX6_settle_38 rfl (lv_at hl 1 rfl) ?_
          refine lv_bipush (v := iI (-2)) hx hb dX6_settle_39 (by decide) ?_
          refine j_icmp_eq (tgt := 73) hx hb dX6_settle_41 rfl (by rw [h5]; exact r2) ⟨by decide, by decide⟩ (fun c41 => ?_) (fun c41 => ?_)
          · skip
            refine lv_iload_n hx hb dX6_settle_73 rfl (lv_at hl 0 rfl) ?_
            exact hret H locs ls 74 _ (cpy pla rows 0 (nr * 24) 24, nr1, min (cn + 1) 10, SF h, p2, c2) dX6_settle_74 (by unfold settleF; rw [if_neg c11]; first | (rw [stl_40 h1 (by rw [← h3, ← h5]; exact c41)]; exact ⟨congrArg iI h2.symm, by show Ro3 (stl g i.toNat).2 _; rw [← h3]; exact h4, HKp_yes c11 hk1⟩; done) | (rw [show (40 : Nat) = i.toNat by omega]; exact ⟨congrArg iI h2.symm, by show Ro3 (stl g i.toNat).2 _; rw [← h3]; exact h4, HKp_yes c11 hk1⟩; done)) hP hD hS
          · skip
            obtain ⟨mw, ms, k, t, e1, k0, k1, t0, t1, e2⟩ := mv_ok hh he (by rw [← h5]; exact c41)
            have wt := wy_bt hh (k := k) (t := t) e1 k0 k1 t0 t1 (by rw [← h5]; exact c41)
            refine lv_aload_n hx hb dX6_settle_44 rfl (lv_at hl 2 rfl) ?_
            refine va_get (D := D) (ci := 6) (v := .ref (q 28)) (C := RX6) (T := TX6) (N := 8) hx hb hts (by decide +kernel) hown hK hP 0 rfl rfl 4 (by decide) (hts (.fieldLink RX6 40 "BreakSetter" "roster" "LBreakSetter$Roster;") (by decide +kernel)) (fun _ h9 => h9) rfl dX6_settle_45 ?_
            refine lv_iload_n hx hb dX6_settle_48 rfl (lv_at hl 1 rfl) ?_
            refine lv_bipush (v := iI (100)) hx hb dX6_settle_49 (by decide) ?_
            refine j_div100 (k := k) (t := t) hx hb (by rw [h5]; exact e1) ⟨by omega, by omega⟩ ⟨by omega, by omega⟩ dX6_settle_51 ?_
            refine lv_iload_n hx hb dX6_settle_52 rfl (lv_at hl 1 rfl) ?_
            refine lv_bipush (v := iI (100)) hx hb dX6_settle_53 (by decide) ?_
            refine j_rem100 (k := k) (t := t) hx hb (by rw [h5]; exact e1) ⟨by omega, by omega⟩ ⟨by omega, by omega⟩ dX6_settle_55 ?_
            refine CV_callVp (As := [.int (iI (k)), .int (iI (t))]) (rest := []) (wn := fun u => wBS q C lf ++ wHi q C (cpy pla rows 0 (nr * 24) 24) nr1 (min (cn + 1) 10) ++ wRo q C (u.1) (u.2.1) (u.2.2) ++ wp) ⟨hx, hb, hml, hown, hts⟩ (c_X3_moveTo hwh hh h4 ⟨by omega, by omega⟩ wt) (cwV 2 hts gX6_settle_X3_moveTo rfl rfl rfl (by decide +kernel) ⟨Nat.le_of_ble_eq_true rfl, Nat.le_of_ble_eq_true rfl⟩) (q0 := 0) rfl rfl rfl hK hNW hP hD hS hA (pm_ro (wBS q C lf ++ wHi q C (cpy pla rows 0 (nr * 24) 24) nr1 (min (cn + 1) 10)) (wRo q C (SF h) p2 c2) wp) (fun u => (pm_ro (wBS q C lf ++ wHi q C (cpy pla rows 0 (nr * 24) 24) nr1 (min (cn + 1) 10)) (wRo q C u.1 u.2.1 u.2.2) wp).symm) rfl hl.1 rfl (Nat.le_of_ble_eq_true rfl) dX6_settle_56 ⟨Nat.zero_le _, Nat.zero_le _⟩ (fun ⟨s1, p1, c1⟩ H locs hw9 hP hD hS => ?_)
            have hP : va_P D vwCl (wBS q C lf ++ wHi q C (cpy pla rows 0 (nr * 24) 24) nr1 (min (cn + 1) 10) ++ wRo q C s1 p1 c1 ++ wp) H := hP
            have hD : va_D A (wBS q C lf ++ wHi q C (cpy pla rows 0 (nr * 24) 24) nr1 (min (cn + 1) 10) ++ wRo q C s1 p1 c1 ++ wp) := hD
            have hm9 : Ro3 (mv h) (s1, p1, c1) := by rw [e2]; exact hw9
            have hwm := PlW_same hw hg ms
            refine j_iinc (k := 0) (lv' := [(2, .int (iI (i + 1))), (1, .int (iI (bb))), (0, .ref (q 0))]) hx hb dX6_settle_59 hl rfl (by decide) rfl (fun ls hl => ?_)
            refine lv_aload_n hx hb dX6_settle_62 rfl (lv_at hl 2 rfl) ?_
            refine va_get (D := D) (ci := 6) (v := .ref (q 28)) (C := RX6) (T := TX6) (N := 8) hx hb hts (by decide +kernel) hown hK hP 0 rfl rfl 4 (by decide) (hts (.fieldLink RX6 40 "BreakSetter" "roster" "LBreakSetter$Roster;") (by decide +kernel)) (fun _ h9 => h9) rfl dX6_settle_63 ?_
            refine CR_callV (As := []) (rest := []) ⟨hx, hb, hml, hown, hts⟩ (c_X3_findBestMove (RoW_add (RoW_mk hwm hm9) (wBS q C lf ++ wHi q C (cpy pla rows 0 (nr * 24) 24) nr1 (min (cn + 1) 10))) mw) (cwV 0 hts gX6_settle_X3_findBestMove rfl rfl rfl (by decide +kernel) ⟨Nat.le_of_ble_eq_true rfl, Nat.le_of_ble_eq_true rfl⟩) (q0 := 3) rfl rfl rfl hK hNW hP rfl hl.1 rfl (Nat.le_of_ble_eq_true rfl) dX6_settle_66 ⟨Nat.zero_le _, Nat.zero_le _⟩ ?_
            refine lv_istore_n (lv' := [(1, .int (iI (betterOf (mv h)))), (2, .int (iI (i + 1))), (0, .ref (q 0))]) hx hb dX6_settle_69 rfl hl (by decide) rfl (fun ls hl => ?_)
            refine lv_goto (tgt := 32) hx hb dX6_settle_70 rfl ?_
            exact ih32 (i + 1) (betterOf (mv h)) (mv h) s1 p1 c1 ls H locs (by omega) (by rw [stl_s h1.1, ← h3, ← h5, if_neg c41]) (by rw [stl_s h1.1, ← h3, ← h5, if_neg c41]) hm9 rfl (by omega) (lv_sub hl [1, 0, 2] rfl) hP hD hS
    exact L32 _ 0 (betterOf g) g (SF g) pla cv ls H locs (by omega) rfl rfl hR rfl (Nat.lt_succ_self _) (lv_sub hl [0, 1, 2] rfl) hP hD hS
  · skip
    refine lv_iconst (v := iI (-1)) hx hb dX6_settle_14 rfl ?_
    exact hret s.heap [] ls 15 _ (rows, nr, cn, (SF g), pla, cv) dX6_settle_15 (by unfold settleF; rw [if_pos c11]; exact ⟨rfl, hR, HKp_no (fun q => q c11)⟩) hP hD hS
