def wBS (q : Nat → Nat) (_ : Nat → ClassId) (lf : Int) : va_W := [(q 0, .inr (6, [.ref (q 1), .ref (q 3), .ref (q 4), .ref (q 16), .ref (q 28), .ref (q 31), .ref (q 34), .int (iI lf)]))]
def wK3 (q : Nat → Nat) (C : Nat → ClassId) (lf sf : Int) (cv : Int → Int) : va_W := [(q 0, .inr (6, [.ref (q 1), .ref (q 3), .ref (q 4), .ref (q 16), .ref (q 28), .ref (q 31), .ref (q 34), .int (iI lf)])), (q 28, .inr (3, [.ref (q 16), .ref (q 29), .ref (q 30), .int (iI sf)])), (q 30, .inl (C 1, 144, .inl (aI cv)))]
theorem pm6 {α : Type} (a b c d e f : α) (l : List α) : (a :: b :: c :: d :: e :: f :: l).Perm (b :: c :: e :: a :: d :: f :: l) := by
  refine (List.Perm.swap b a _).trans (List.Perm.cons b ?_)
  refine (List.Perm.swap c a _).trans (List.Perm.cons c ?_)
  refine (List.Perm.cons a (List.Perm.swap e d _)).trans ?_
  exact List.Perm.swap e a _
theorem pm_keep (q : Nat → Nat) (C : Nat → ClassId) (lf : Int) (rows : Int → Int) (nr cn sf : Int) (pla cv : Int → Int) (wp : va_W) : (wBS q C lf ++ wHi q C rows nr cn ++ wRo q C sf pla cv ++ wp).Perm ((wHi q C rows nr cn ++ wP1 q C pla) ++ (wK3 q C lf sf cv ++ wp)) := pm6 _ _ _ _ _ _ wp
theorem pm_ro (v w1 wp : va_W) : (v ++ w1 ++ wp).Perm ((w1 ++ wp) ++ v) := by
  rw [List.append_assoc]
  exact List.perm_append_comm
/-- a row kept, or not -/
def HKp (b : Prop) (pla rows : Int → Int) (nr cn : Int) (rows' : Int → Int) (nr' cn' : Int) : Prop := (b → rows' = cpy pla rows 0 (nr * 24) 24 ∧ nr' = (if nr = 9 then 0 else nr + 1) ∧ cn' = min (cn + 1) 10) ∧ (¬ b → rows' = rows ∧ nr' = nr ∧ cn' = cn)
theorem HKp_no {b : Prop} {pla rows : Int → Int} {nr cn : Int} (h : ¬ b) : HKp b pla rows nr cn rows nr cn := ⟨fun q => absurd q h, fun _ => ⟨rfl, rfl, rfl⟩⟩
theorem HKp_yes {b : Prop} {pla rows : Int → Int} {nr cn nr' : Int} (h : b) (e : nr' = if nr = 9 then 0 else nr + 1) : HKp b pla rows nr cn (cpy pla rows 0 (nr * 24) 24) nr' (min (cn + 1) 10) := ⟨fun _ => ⟨rfl, e, rfl⟩, fun q => absurd h q⟩
set_option maxHeartbeats 4000000 in
set_option maxRecDepth 100000 in
theorem c_X6_place {l : Launch} {D : va_G} {C : Nat → ClassId} {q : Nat → Nat} {wp : va_W} {g : Int → Int} (hw : PlW q C wp g) (hg : Wf g) {lf : Int} {rows pla cv : Int → Int} {nr cn : Int} (hn : 0 ≤ nr ∧ nr < 10) (hc : 0 ≤ cn ∧ cn ≤ 10) (hR : Ro3 g (SF g, pla, cv)) {kk tt : Int} (hk : R32 kk) (ht : R32 tt) : CI (S := (Int → Int) × Int × Int × Int × (Int → Int) × (Int → Int)) l yX6_place wsX6_place 5 113 D C [.ref (q 0), .int (iI (kk)), .int (iI (tt))] (wBS q C lf ++ wHi q C rows nr cn ++ wRo q C (SF g) pla cv ++ wp) (fun u => wBS q C lf ++ wHi q C (u.1) (u.2.1) (u.2.2.1) ++ wRo q C (u.2.2.2.1) (u.2.2.2.2.1) (u.2.2.2.2.2) ++ wp) (fun r u => r = iI (placeF cn g g kk tt).1 ∧ Ro3 (placeF cn g g kk tt).2.2.1 u.2.2.2 ∧ HKp ((((0 ≤ kk ∧ kk < g 3) ∧ (0 ≤ tt ∧ tt < 48)) ∧ ¬ g (192 + 5 * kk) - 1 = tt) ∧ wy g kk tt = 0) pla rows nr cn u.1 u.2.1 u.2.2.1) := by
  obtain ⟨⟨k16, ln, nd, h16⟩, ⟨k17, f17, h17, e17⟩, ⟨k18, f18, h18, e18⟩, ⟨k19, f19, h19, e19⟩, ⟨k20, f20, h20, e20⟩, ⟨k21, f21, h21, e21⟩, ⟨k22, f22, h22, e22⟩, ⟨k23, f23, h23, e23⟩, ⟨k24, f24, h24, e24⟩, ⟨k25, f25, h25, e25⟩, ⟨k26, f26, h26, e26⟩, ⟨k27, f27, h27, e27⟩⟩ := id hw
  refine CI_of (cc := cX6_place) (maxL := 4) (by decide) rfl (Nat.le_of_ble_eq_true rfl) ?_
  intro p e s m below meth c A Q ls hx hb hml hown hts hK hNW hA hl hP hD hS hret
  have hl : lv_has ls 4 [(0, .ref (q 0)), (1, .int (iI (kk))), (2, .int (iI (tt)))] := hl
  have n := Wf_n hg
  refine lv_aload_n hx hb dX6_place_0 rfl (lv_at hl 0 rfl) ?_
  refine va_get (D := D) (ci := 6) (v := .ref (q 16)) (C := RX6) (T := TX6) (N := 8) hx hb hts (by decide +kernel) hown hK hP 0 rfl rfl 3 (by decide) (hts (.fieldLink RX6 23 "BreakSetter" "plan" "LBreakSetter$Plan;") (by decide +kernel)) (fun _ h9 => h9) rfl dX6_place_1 ?_
  refine lv_iload_n hx hb dX6_place_4 rfl (lv_at hl 1 rfl) ?_
  refine CR_callV (As := [.int (iI (kk))]) (rest := []) ⟨hx, hb, hml, hown, hts⟩ (c_X1_hasPause (PlW_add hw _) hg hk) (cwV 1 hts gX6_place_X1_hasPause rfl rfl rfl (by decide +kernel) ⟨Nat.le_of_ble_eq_true rfl, Nat.le_of_ble_eq_true rfl⟩) (q0 := (k16 + 6)) h16 rfl rfl hK hNW hP rfl hl.1 rfl (Nat.le_of_ble_eq_true rfl) dX6_place_5 ⟨Nat.zero_le _, Nat.zero_le _⟩ ?_
  refine j_ifeqB (tgt := 31) hx hb dX6_place_8 rfl (fun c8 => ?_) (fun c8 => ?_)
  · skip
    refine lv_iconst (v := iI (-1)) hx hb dX6_place_31 rfl ?_
    exact hret s.heap [] ls 32 _ (rows, nr, cn, (SF g), pla, cv) dX6_place_32 (by unfold placeF; (rw [if_neg (by omega)]; exact ⟨rfl, hR, HKp_no (by omega)⟩; done)) hP hD hS
  · skip
    refine lv_iload_n hx hb dX6_place_11 rfl (lv_at hl 2 rfl) ?_
    refine CR_callS (As := [.int (iI (tt))]) (rest := []) ⟨hx, hb, hml, hown, hts⟩ (c_X6_isSlot ht) (cwS 1 hts gX6_place_X6_isSlot rfl rfl rfl (by decide +kernel) ⟨Nat.le_of_ble_eq_true rfl, Nat.le_of_ble_eq_true rfl⟩) hK hNW hP rfl hl.1 rfl (Nat.le_of_ble_eq_true rfl) dX6_place_12 ⟨Nat.zero_le _, Nat.zero_le _⟩ ?_
    refine j_ifeqB (tgt := 31) hx hb dX6_place_15 rfl (fun c15 => ?_) (fun c15 => ?_)
    · skip
      refine lv_iconst (v := iI (-1)) hx hb dX6_place_31 rfl ?_
      exact hret s.heap [] ls 32 _ (rows, nr, cn, (SF g), pla, cv) dX6_place_32 (by unfold placeF; (rw [if_neg (by omega)]; exact ⟨rfl, hR, HKp_no (by omega)⟩; done)) hP hD hS
    · skip
      have b := Wf_p hg c8.1 c8.2
      refine lv_aload_n hx hb dX6_place_18 rfl (lv_at hl 0 rfl) ?_
      refine va_get (D := D) (ci := 6) (v := .ref (q 28)) (C := RX6) (T := TX6) (N := 8) hx hb hts (by decide +kernel) hown hK hP 0 rfl rfl 4 (by decide) (hts (.fieldLink RX6 40 "BreakSetter" "roster" "LBreakSetter$Roster;") (by decide +kernel)) (fun _ h9 => h9) rfl dX6_place_19 ?_
      refine va_get (D := D) (ci := 3) (v := .ref (q 29)) (C := RX3) (T := TX3) (N := 4) hx hb hts (by decide +kernel) hown hK hP 3 rfl rfl 1 (by decide) (hts (.fieldLink RX6 162 "BreakSetter$Roster" "places" "[I") (by decide +kernel)) (fun _ h9 => h9) rfl dX6_place_22 ?_
      refine lv_iload_n hx hb dX6_place_25 rfl (lv_at hl 1 rfl) ?_
      refine j_iald hx hb hK hP 4 1 rfl rfl ⟨by omega, by omega⟩ (Nat.le_of_ble_eq_true rfl) dX6_place_26 ?_
      refine W_wen (y := iI (g (192 + 5 * kk) - 1)) (congrArg iI (hR.2.1 kk (by omega) (by omega))) ?_
      refine lv_iload_n hx hb dX6_place_27 rfl (lv_at hl 2 rfl) ?_
      refine j_icmp_ne (tgt := 33) hx hb dX6_place_28 rfl ⟨by omega, by omega⟩ ht (fun c28 => ?_) (fun c28 => ?_)
      · skip
        refine lv_aload_n hx hb dX6_place_33 rfl (lv_at hl 0 rfl) ?_
        refine va_get (D := D) (ci := 6) (v := .ref (q 28)) (C := RX6) (T := TX6) (N := 8) hx hb hts (by decide +kernel) hown hK hP 0 rfl rfl 4 (by decide) (hts (.fieldLink RX6 40 "BreakSetter" "roster" "LBreakSetter$Roster;") (by decide +kernel)) (fun _ h9 => h9) rfl dX6_place_34 ?_
        refine lv_iload_n hx hb dX6_place_37 rfl (lv_at hl 1 rfl) ?_
        refine lv_iload_n hx hb dX6_place_38 rfl (lv_at hl 2 rfl) ?_
        refine CR_callV (As := [.int (iI (kk)), .int (iI (tt))]) (rest := []) ⟨hx, hb, hml, hown, hts⟩ (c_X3_reasonAgainst (RoW_add (RoW_mk hw hR) (wBS q C lf ++ wHi q C rows nr cn)) hg c8 c15) (cwV 2 hts gX6_place_X3_reasonAgainst rfl rfl rfl (by decide +kernel) ⟨Nat.le_of_ble_eq_true rfl, Nat.le_of_ble_eq_true rfl⟩) (q0 := 3) rfl rfl rfl hK hNW hP rfl hl.1 rfl (Nat.le_of_ble_eq_true rfl) dX6_place_39 ⟨Nat.zero_le _, Nat.zero_le _⟩ ?_
        refine lv_istore_n (lv' := [(3, .int (iI (wy g kk tt))), (0, .ref (q 0)), (1, .int (iI (kk))), (2, .int (iI (tt)))]) hx hb dX6_place_42 rfl hl (by decide) rfl (fun ls hl => ?_)
        have yy := wy_rng g kk tt
        refine lv_iload_n hx hb dX6_place_43 rfl (lv_at hl 0 rfl) ?_
        refine j_if_eq (tgt := 49) hx hb dX6_place_44 rfl ⟨by omega, by omega⟩ (fun c44 => ?_) (fun c44 => ?_)
        · skip
          refine lv_aload_n hx hb dX6_place_49 rfl (lv_at hl 1 rfl) ?_
          refine va_get (D := D) (ci := 6) (v := .ref (q 34)) (C := RX6) (T := TX6) (N := 8) hx hb hts (by decide +kernel) hown hK hP 0 rfl rfl 6 (by decide) (hts (.fieldLink RX6 56 "BreakSetter" "history" "LBreakSetter$History;") (by decide +kernel)) (fun _ h9 => h9) rfl dX6_place_50 ?_
          refine lv_aload_n hx hb dX6_place_53 rfl (lv_at hl 1 rfl) ?_
          refine va_get (D := D) (ci := 6) (v := .ref (q 28)) (C := RX6) (T := TX6) (N := 8) hx hb hts (by decide +kernel) hown hK hP 0 rfl rfl 4 (by decide) (hts (.fieldLink RX6 40 "BreakSetter" "roster" "LBreakSetter$Roster;") (by decide +kernel)) (fun _ h9 => h9) rfl dX6_place_54 ?_
          refine va_get (D := D) (ci := 3) (v := .ref (q 29)) (C := RX3) (T := TX3) (N := 4) hx hb hts (by decide +kernel) hown hK hP 3 rfl rfl 1 (by decide) (hts (.fieldLink RX6 162 "BreakSetter$Roster" "places" "[I") (by decide +kernel)) (fun _ h9 => h9) rfl dX6_place_57 ?_
          refine CV_callVp (As := [.ref (q 29)]) (rest := []) (wn := fun u => wBS q C lf ++ wHi q C (cpy pla rows 0 (nr * 24) 24) u (min (cn + 1) 10) ++ wRo q C (SF g) pla cv ++ wp) ⟨hx, hb, hml, hown, hts⟩ (c_X0_keep hn hc) (cwV 1 hts gX6_place_X0_keep rfl rfl rfl (by decide +kernel) ⟨Nat.le_of_ble_eq_true rfl, Nat.le_of_ble_eq_true rfl⟩) (q0 := 0) rfl rfl rfl hK hNW hP hD hS hA (pm_keep q C lf rows nr cn (SF g) pla cv wp) (fun u => (pm_keep q C lf _ u _ (SF g) pla cv wp).symm) rfl hl.1 rfl (Nat.le_of_ble_eq_true rfl) dX6_place_60 ⟨Nat.zero_le _, Nat.zero_le _⟩ (fun nr1 H locs hw9 hP hD hS => ?_)
          have hP : va_P D vwCl (wBS q C lf ++ wHi q C (cpy pla rows 0 (nr * 24) 24) nr1 (min (cn + 1) 10) ++ wRo q C (SF g) pla cv ++ wp) H := hP
          have hD : va_D A (wBS q C lf ++ wHi q C (cpy pla rows 0 (nr * 24) 24) nr1 (min (cn + 1) 10) ++ wRo q C (SF g) pla cv ++ wp) := hD
          have hk1 : nr1 = if nr = 9 then 0 else nr + 1 := hw9
          refine lv_aload_n hx hb dX6_place_63 rfl (lv_at hl 1 rfl) ?_
          refine va_get (D := D) (ci := 6) (v := .ref (q 28)) (C := RX6) (T := TX6) (N := 8) hx hb hts (by decide +kernel) hown hK hP 0 rfl rfl 4 (by decide) (hts (.fieldLink RX6 40 "BreakSetter" "roster" "LBreakSetter$Roster;") (by decide +kernel)) (fun _ h9 => h9) rfl dX6_place_64 ?_
          refine lv_iload_n hx hb dX6_place_67 rfl (lv_at hl 2 rfl) ?_
          refine lv_iload_n hx hb dX6_place_68 rfl (lv_at hl 3 rfl) ?_
          refine CV_callVp (As := [.int (iI (kk)), .int (iI (tt))]) (rest := []) (wn := fun u => wBS q C lf ++ wHi q C (cpy pla rows 0 (nr * 24) 24) nr1 (min (cn + 1) 10) ++ wRo q C (u.1) (u.2.1) (u.2.2) ++ wp) ⟨hx, hb, hml, hown, hts⟩ (c_X3_moveTo hw hg hR c8 (wy_00 (by omega))) (cwV 2 hts gX6_place_X3_moveTo rfl rfl rfl (by decide +kernel) ⟨Nat.le_of_ble_eq_true rfl, Nat.le_of_ble_eq_true rfl⟩) (q0 := 0) rfl rfl rfl hK hNW hP hD hS hA (pm_ro (wBS q C lf ++ wHi q C (cpy pla rows 0 (nr * 24) 24) nr1 (min (cn + 1) 10)) (wRo q C (SF g) pla cv) wp) (fun u => (pm_ro (wBS q C lf ++ wHi q C (cpy pla rows 0 (nr * 24) 24) nr1 (min (cn + 1) 10)) (wRo q C u.1 u.2.1 u.2.2) wp).symm) rfl hl.1 rfl (Nat.le_of_ble_eq_true rfl) dX6_place_69 ⟨Nat.zero_le _, Nat.zero_le _⟩ (fun ⟨s1, p1, c1⟩ H locs hw9 hP hD hS => ?_)
          have hP : va_P D vwCl (wBS q C lf ++ wHi q C (cpy pla rows 0 (nr * 24) 24) nr1 (min (cn + 1) 10) ++ wRo q C s1 p1 c1 ++ wp) H := hP
          have hD : va_D A (wBS q C lf ++ wHi q C (cpy pla rows 0 (nr * 24) 24) nr1 (min (cn + 1) 10) ++ wRo q C s1 p1 c1 ++ wp) := hD
          refine lv_iconst (v := iI (0)) hx hb dX6_place_72 rfl ?_
          exact hret H locs ls 73 _ (cpy pla rows 0 (nr * 24) 24, nr1, min (cn + 1) 10, s1, p1, c1) dX6_place_73 (by unfold placeF; rw [if_pos ⟨⟨c8, c15⟩, c28⟩, if_neg (by omega)]; exact ⟨rfl, hw9, HKp_yes ⟨⟨⟨c8, c15⟩, c28⟩, by omega⟩ hk1⟩) hP hD hS
        · skip
          refine lv_iload_n hx hb dX6_place_47 rfl (lv_at hl 0 rfl) ?_
          exact hret s.heap [] ls 48 _ (rows, nr, cn, (SF g), pla, cv) dX6_place_48 (by unfold placeF; rw [if_pos ⟨⟨c8, c15⟩, c28⟩, if_pos (by omega)]; exact ⟨rfl, hR, HKp_no (fun q => c44 q.2)⟩) hP hD hS
      · skip
        refine lv_iconst (v := iI (-1)) hx hb dX6_place_31 rfl ?_
        exact hret s.heap [] ls 32 _ (rows, nr, cn, (SF g), pla, cv) dX6_place_32 (by unfold placeF; first | (rw [if_neg (fun q => q.2 c28)]; exact ⟨rfl, hR, HKp_no (fun q => q.1.2 c28)⟩; done) | (rw [if_neg (by omega)]; exact ⟨rfl, hR, HKp_no (by omega)⟩; done)) hP hD hS

set_option maxHeartbeats 4000000 in
set_option maxRecDepth 100000 in
theorem c_X6_take {l : Launch} {D : va_G} {C : Nat → ClassId} {q : Nat → Nat} {wp : va_W} {g : Int → Int} (hw : PlW q C wp g) (hg : Wf g) {lf : Int} {rows pla cv : Int → Int} {nr cn : Int} (hn : 0 ≤ nr ∧ nr < 10) (hc : 0 ≤ cn ∧ cn ≤ 10) (hR : Ro3 g (SF g, pla, cv)) {kk : Int} (hk : R32 kk) : CI (S := (Int → Int) × Int × Int × Int × (Int → Int) × (Int → Int)) l yX6_take wsX6_take 4 91 D C [.ref (q 0), .int (iI (kk))] (wBS q C lf ++ wHi q C rows nr cn ++ wRo q C (SF g) pla cv ++ wp) (fun u => wBS q C lf ++ wHi q C (u.1) (u.2.1) (u.2.2.1) ++ wRo q C (u.2.2.2.1) (u.2.2.2.2.1) (u.2.2.2.2.2) ++ wp) (fun r u => r = iI (takeF cn g g kk).1 ∧ Ro3 (takeF cn g g kk).2.2.1 u.2.2.2 ∧ HKp ((0 ≤ kk ∧ kk < g 3) ∧ ¬ g (192 + 5 * kk) - 1 = -1) pla rows nr cn u.1 u.2.1 u.2.2.1) := by
  obtain ⟨⟨k16, ln, nd, h16⟩, ⟨k17, f17, h17, e17⟩, ⟨k18, f18, h18, e18⟩, ⟨k19, f19, h19, e19⟩, ⟨k20, f20, h20, e20⟩, ⟨k21, f21, h21, e21⟩, ⟨k22, f22, h22, e22⟩, ⟨k23, f23, h23, e23⟩, ⟨k24, f24, h24, e24⟩, ⟨k25, f25, h25, e25⟩, ⟨k26, f26, h26, e26⟩, ⟨k27, f27, h27, e27⟩⟩ := id hw
  refine CI_of (cc := cX6_take) (maxL := 3) (by decide) rfl (Nat.le_of_ble_eq_true rfl) ?_
  intro p e s m below meth c A Q ls hx hb hml hown hts hK hNW hA hl hP hD hS hret
  have hl : lv_has ls 3 [(0, .ref (q 0)), (1, .int (iI (kk)))] := hl
  have n := Wf_n hg
  refine lv_aload_n hx hb dX6_take_0 rfl (lv_at hl 0 rfl) ?_
  refine va_get (D := D) (ci := 6) (v := .ref (q 16)) (C := RX6) (T := TX6) (N := 8) hx hb hts (by decide +kernel) hown hK hP 0 rfl rfl 3 (by decide) (hts (.fieldLink RX6 23 "BreakSetter" "plan" "LBreakSetter$Plan;") (by decide +kernel)) (fun _ h9 => h9) rfl dX6_take_1 ?_
  refine lv_iload_n hx hb dX6_take_4 rfl (lv_at hl 1 rfl) ?_
  refine CR_callV (As := [.int (iI (kk))]) (rest := []) ⟨hx, hb, hml, hown, hts⟩ (c_X1_hasPause (PlW_add hw _) hg hk) (cwV 1 hts gX6_take_X1_hasPause rfl rfl rfl (by decide +kernel) ⟨Nat.le_of_ble_eq_true rfl, Nat.le_of_ble_eq_true rfl⟩) (q0 := (k16 + 6)) h16 rfl rfl hK hNW hP rfl hl.1 rfl (Nat.le_of_ble_eq_true rfl) dX6_take_5 ⟨Nat.zero_le _, Nat.zero_le _⟩ ?_
  refine j_ifeqB (tgt := 24) hx hb dX6_take_8 rfl (fun c8 => ?_) (fun c8 => ?_)
  · skip
    refine lv_iconst (v := iI (-1)) hx hb dX6_take_24 rfl ?_
    exact hret s.heap [] ls 25 _ (rows, nr, cn, (SF g), pla, cv) dX6_take_25 (by unfold takeF; (rw [if_neg (fun q => c8 q.1)]; exact ⟨rfl, hR, HKp_no (fun q => c8 q.1)⟩; done)) hP hD hS
  · skip
    have b := Wf_p hg c8.1 c8.2
    refine lv_aload_n hx hb dX6_take_11 rfl (lv_at hl 0 rfl) ?_
    refine va_get (D := D) (ci := 6) (v := .ref (q 28)) (C := RX6) (T := TX6) (N := 8) hx hb hts (by decide +kernel) hown hK hP 0 rfl rfl 4 (by decide) (hts (.fieldLink RX6 40 "BreakSetter" "roster" "LBreakSetter$Roster;") (by decide +kernel)) (fun _ h9 => h9) rfl dX6_take_12 ?_
    refine va_get (D := D) (ci := 3) (v := .ref (q 29)) (C := RX3) (T := TX3) (N := 4) hx hb hts (by decide +kernel) hown hK hP 3 rfl rfl 1 (by decide) (hts (.fieldLink RX6 162 "BreakSetter$Roster" "places" "[I") (by decide +kernel)) (fun _ h9 => h9) rfl dX6_take_15 ?_
    refine lv_iload_n hx hb dX6_take_18 rfl (lv_at hl 1 rfl) ?_
    refine j_iald hx hb hK hP 4 1 rfl rfl ⟨by omega, by omega⟩ (Nat.le_of_ble_eq_true rfl) dX6_take_19 ?_
    refine W_wen (y := iI (g (192 + 5 * kk) - 1)) (congrArg iI (hR.2.1 kk (by omega) (by omega))) ?_
    refine lv_iconst (v := iI (-1)) hx hb dX6_take_20 rfl ?_
    refine j_icmp_ne (tgt := 26) hx hb dX6_take_21 rfl ⟨by omega, by omega⟩ ⟨by decide, by decide⟩ (fun c21 => ?_) (fun c21 => ?_)
    · skip
      refine lv_aload_n hx hb dX6_take_26 rfl (lv_at hl 0 rfl) ?_
      refine va_get (D := D) (ci := 6) (v := .ref (q 34)) (C := RX6) (T := TX6) (N := 8) hx hb hts (by decide +kernel) hown hK hP 0 rfl rfl 6 (by decide) (hts (.fieldLink RX6 56 "BreakSetter" "history" "LBreakSetter$History;") (by decide +kernel)) (fun _ h9 => h9) rfl dX6_take_27 ?_
      refine lv_aload_n hx hb dX6_take_30 rfl (lv_at hl 0 rfl) ?_
      refine va_get (D := D) (ci := 6) (v := .ref (q 28)) (C := RX6) (T := TX6) (N := 8) hx hb hts (by decide +kernel) hown hK hP 0 rfl rfl 4 (by decide) (hts (.fieldLink RX6 40 "BreakSetter" "roster" "LBreakSetter$Roster;") (by decide +kernel)) (fun _ h9 => h9) rfl dX6_take_31 ?_
      refine va_get (D := D) (ci := 3) (v := .ref (q 29)) (C := RX3) (T := TX3) (N := 4) hx hb hts (by decide +kernel) hown hK hP 3 rfl rfl 1 (by decide) (hts (.fieldLink RX6 162 "BreakSetter$Roster" "places" "[I") (by decide +kernel)) (fun _ h9 => h9) rfl dX6_take_34 ?_
      refine CV_callVp (As := [.ref (q 29)]) (rest := []) (wn := fun u => wBS q C lf ++ wHi q C (cpy pla rows 0 (nr * 24) 24) u (min (cn + 1) 10) ++ wRo q C (SF g) pla cv ++ wp) ⟨hx, hb, hml, hown, hts⟩ (c_X0_keep hn hc) (cwV 1 hts gX6_take_X0_keep rfl rfl rfl (by decide +kernel) ⟨Nat.le_of_ble_eq_true rfl, Nat.le_of_ble_eq_true rfl⟩) (q0 := 0) rfl rfl rfl hK hNW hP hD hS hA (pm_keep q C lf rows nr cn (SF g) pla cv wp) (fun u => (pm_keep q C lf _ u _ (SF g) pla cv wp).symm) rfl hl.1 rfl (Nat.le_of_ble_eq_true rfl) dX6_take_37 ⟨Nat.zero_le _, Nat.zero_le _⟩ (fun nr1 H locs hw9 hP hD hS => ?_)
      have hP : va_P D vwCl (wBS q C lf ++ wHi q C (cpy pla rows 0 (nr * 24) 24) nr1 (min (cn + 1) 10) ++ wRo q C (SF g) pla cv ++ wp) H := hP
      have hD : va_D A (wBS q C lf ++ wHi q C (cpy pla rows 0 (nr * 24) 24) nr1 (min (cn + 1) 10) ++ wRo q C (SF g) pla cv ++ wp) := hD
      have hk1 : nr1 = if nr = 9 then 0 else nr + 1 := hw9
      refine lv_aload_n hx hb dX6_take_40 rfl (lv_at hl 0 rfl) ?_
      refine va_get (D := D) (ci := 6) (v := .ref (q 28)) (C := RX6) (T := TX6) (N := 8) hx hb hts (by decide +kernel) hown hK hP 0 rfl rfl 4 (by decide) (hts (.fieldLink RX6 40 "BreakSetter" "roster" "LBreakSetter$Roster;") (by decide +kernel)) (fun _ h9 => h9) rfl dX6_take_41 ?_
      refine va_get (D := D) (ci := 3) (v := .ref (q 29)) (C := RX3) (T := TX3) (N := 4) hx hb hts (by decide +kernel) hown hK hP 3 rfl rfl 1 (by decide) (hts (.fieldLink RX6 162 "BreakSetter$Roster" "places" "[I") (by decide +kernel)) (fun _ h9 => h9) rfl dX6_take_44 ?_
      refine lv_iload_n hx hb dX6_take_47 rfl (lv_at hl 1 rfl) ?_
      refine j_iald hx hb hK hP 4 1 rfl rfl ⟨by omega, by omega⟩ (Nat.le_of_ble_eq_true rfl) dX6_take_48 ?_
      refine W_wen (y := iI (g (192 + 5 * kk) - 1)) (congrArg iI (hR.2.1 kk (by omega) (by omega))) ?_
      refine lv_istore_n (lv' := [(2, .int (iI (g (192 + 5 * kk) - 1))), (0, .ref (q 0)), (1, .int (iI (kk)))]) hx hb dX6_take_49 rfl hl (by decide) rfl (fun ls hl => ?_)
      refine lv_aload_n hx hb dX6_take_50 rfl (lv_at hl 1 rfl) ?_
      refine va_get (D := D) (ci := 6) (v := .ref (q 28)) (C := RX6) (T := TX6) (N := 8) hx hb hts (by decide +kernel) hown hK hP 0 rfl rfl 4 (by decide) (hts (.fieldLink RX6 40 "BreakSetter" "roster" "LBreakSetter$Roster;") (by decide +kernel)) (fun _ h9 => h9) rfl dX6_take_51 ?_
      refine lv_iload_n hx hb dX6_take_54 rfl (lv_at hl 2 rfl) ?_
      refine CV_callVp (As := [.int (iI (kk))]) (rest := []) (wn := fun u => wBS q C lf ++ wHi q C (cpy pla rows 0 (nr * 24) 24) nr1 (min (cn + 1) 10) ++ wRo q C (u.1) (u.2.1) (u.2.2) ++ wp) ⟨hx, hb, hml, hown, hts⟩ (c_X3_lift hw hg hR c8) (cwV 1 hts gX6_take_X3_lift rfl rfl rfl (by decide +kernel) ⟨Nat.le_of_ble_eq_true rfl, Nat.le_of_ble_eq_true rfl⟩) (q0 := 0) rfl rfl rfl hK hNW hP hD hS hA (pm_ro (wBS q C lf ++ wHi q C (cpy pla rows 0 (nr * 24) 24) nr1 (min (cn + 1) 10)) (wRo q C (SF g) pla cv) wp) (fun u => (pm_ro (wBS q C lf ++ wHi q C (cpy pla rows 0 (nr * 24) 24) nr1 (min (cn + 1) 10)) (wRo q C u.1 u.2.1 u.2.2) wp).symm) rfl hl.1 rfl (Nat.le_of_ble_eq_true rfl) dX6_take_55 ⟨Nat.zero_le _, Nat.zero_le _⟩ (fun ⟨s1, p1, c1⟩ H locs hw9 hP hD hS => ?_)
      have hP : va_P D vwCl (wBS q C lf ++ wHi q C (cpy pla rows 0 (nr * 24) 24) nr1 (min (cn + 1) 10) ++ wRo q C s1 p1 c1 ++ wp) H := hP
      have hD : va_D A (wBS q C lf ++ wHi q C (cpy pla rows 0 (nr * 24) 24) nr1 (min (cn + 1) 10) ++ wRo q C s1 p1 c1 ++ wp) := hD
      refine lv_iload_n hx hb dX6_take_58 rfl (lv_at hl 0 rfl) ?_
      exact hret H locs ls 59 _ (cpy pla rows 0 (nr * 24) 24, nr1, min (cn + 1) 10, s1, p1, c1) dX6_take_59 (by unfold takeF; rw [if_pos ⟨c8, c21⟩]; exact ⟨rfl, hw9, HKp_yes ⟨c8, c21⟩ hk1⟩) hP hD hS
    · skip
      refine lv_iconst (v := iI (-1)) hx hb dX6_take_24 rfl ?_
      exact hret s.heap [] ls 25 _ (rows, nr, cn, (SF g), pla, cv) dX6_take_25 (by unfold takeF; first | (rw [if_neg (fun q => q.2 c21)]; exact ⟨rfl, hR, HKp_no (fun q => q.2 c21)⟩; done) | (rw [if_neg (fun q => c8 q.1)]; exact ⟨rfl, hR, HKp_no (fun q => c8 q.1)⟩; done)) hP hD hS
