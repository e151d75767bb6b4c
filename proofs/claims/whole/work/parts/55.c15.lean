def wRd (q : Nat → Nat) (_ : Nat → ClassId) (fk tk ts te st ins po fr to ln ea : Int) : va_W := [(q 3, .inr (2, [.ref (q 1), .ref (q 4), .int (iI fk), .int (iI tk), .int (iI ts), .int (iI te), .int (iI st), .int (iI ins), .int (iI po), .int (iI fr), .int (iI to), .int (iI ln), .int (iI ea)]))]
theorem bAt_rng {len : Int} {bs : Int → Int} (hbs : ∀ k : Int, 0 ≤ k → k < 640 → 0 ≤ bs k ∧ bs k < 256) (hl : len ≤ 640) {i : Int} (h0 : 0 ≤ i) : (-1 ≤ bAt len bs i ∧ bAt len bs i < 256) ∧ (bAt len bs i = -1 → len ≤ i) ∧ (¬ bAt len bs i = -1 → i < len ∧ bAt len bs i = bs i) := by
  by_cases h : i < len
  · have b := hbs i h0 (by omega)
    rw [bAt_in h0 h]
    exact ⟨by omega, fun q => by omega, fun _ => ⟨h, rfl⟩⟩
  · rw [bAt_out (by omega)]
    exact ⟨by omega, fun _ => by omega, fun q => absurd rfl q⟩
theorem DrP_st {g : Int → Int} {st st' dp dw ds dk : Int} {a0 a1 a2 a3 a4 a5 a6 a7 a8 a9 aA : Int → Int} (H : DrP g st dp dw ds dk a0 a1 a2 a3 a4 a5 a6 a7 a8 a9 aA) (ep : prg st' = prg st) (h0 : ¬ (st' = 0 ∨ st' = 5) → dp = g 0) (h1 : ¬ (st' = 0 ∨ st' = 5 ∨ st' = 6) → dw = g 1) : DrP g st' dp dw ds dk a0 a1 a2 a3 a4 a5 a6 a7 a8 a9 aA := DrP_congr H rfl rfl ep (fun _ _ _ => rfl) (fun _ _ _ _ _ _ => rfl) (fun _ _ _ _ _ _ => rfl) h0 h1
theorem MI_first {q ins po fr to ln ea nds li : Int} {g : Int → Int} (h : MI (q, ins, po, fr, to, ln, ea, nds, li, g)) (hq : q = 3 ∨ 11 ≤ q) : g (152 + 5 * g 2) ≤ 3 * g 2 := by
  obtain ⟨⟨m1, m2, m3, m4, -⟩, hb, hs⟩ := h
  rw [prg_1 hq] at hs
  have s2 := hs.2.1 (g 2) m4.1 (by omega)
  omega
set_option maxHeartbeats 4000000 in
set_option maxRecDepth 100000 in
theorem c_X2_findToken {l : Launch} {D : va_G} {C : Nat → ClassId} {q : Nat → Nat} {fk tk ts te st ins po fr to ln ea len : Int} {bs : Int → Int} {dp dw dl dn ds dk : Int} {a0 a1 a2 a3 a4 a5 a6 a7 a8 a9 aA : Int → Int} (hlen : 0 ≤ len ∧ len ≤ 640) (hbs : ∀ k : Int, 0 ≤ k → k < 640 → 0 ≤ bs k ∧ bs k < 256) (ht : 0 ≤ te ∧ te ≤ len) : CV (S := Int × Int × Int) l yX2_findToken wsX2_findToken 2 43 D C [.ref (q 3)] (wRd q C fk tk ts te st ins po fr to ln ea ++ wTp q C len bs ++ wDr q C dp dw dl dn ds dk a0 a1 a2 a3 a4 a5 a6 a7 a8 a9 aA) (fun u => wRd q C fk (u.1) (u.2.1) (u.2.2) st ins po fr to ln ea ++ wTp q C len bs ++ wDr q C dp dw dl dn ds dk a0 a1 a2 a3 a4 a5 a6 a7 a8 a9 aA) (fun u => u.2.1 = tkS bs len te ∧ ((len ≤ tkS bs len te ∧ u.1 = 4) ∨ (tkS bs len te < len ∧ u.1 = tkK bs len (tkS bs len te) ∧ u.2.2 = tkE bs len (tkS bs len te)))) := by
  refine CV_of (cc := cX2_findToken) (maxL := 2) (by decide) rfl (Nat.le_of_ble_eq_true rfl) ?_
  intro p e s m below meth c A Q ls hx hb hml hown hts hK hNW hA hl hP hD hS hret
  have hl : lv_has ls 2 [(0, .ref (q 3))] := hl
  refine lv_aload_n hx hb dX2_findToken_0 rfl (lv_at hl 0 rfl) ?_
  refine lv_aload_n hx hb dX2_findToken_1 rfl (lv_at hl 0 rfl) ?_
  refine lv_aload_n hx hb dX2_findToken_2 rfl (lv_at hl 0 rfl) ?_
  refine va_get (D := D) (ci := 2) (v := .int (iI (te))) (C := RX2) (T := TX2) (N := 13) hx hb hts (by decide +kernel) hown hK hP 0 rfl rfl 5 (by decide) (hts (.fieldLink RX2 32 "BreakSetter$Reader" "tokenEnd" "I") (by decide +kernel)) (fun _ h9 => h9) rfl dX2_findToken_3 ?_
  refine CR_callV (As := [.int (iI (te))]) (rest := [.ref (q 3)]) ⟨hx, hb, hml, hown, hts⟩ (c_X2_endOfBlanks ⟨0, rfl⟩ ⟨⟨1, rfl⟩, ⟨2, rfl⟩⟩ hlen hbs ⟨by omega, by omega⟩) (cwV 1 hts gX2_findToken_X2_endOfBlanks rfl rfl rfl (by decide +kernel) ⟨Nat.le_of_ble_eq_true rfl, Nat.le_of_ble_eq_true rfl⟩) (q0 := 0) rfl rfl rfl hK hNW hP rfl hl.1 rfl (Nat.le_of_ble_eq_true rfl) dX2_findToken_6 ⟨Nat.zero_le _, Nat.zero_le _⟩ ?_
  obtain ⟨sx, hsx⟩ : ∃ sx, sx = tkS bs len te := ⟨_, rfl⟩
  have rx := skp_r (P := isBl) (b := bs) (n := len) (i := te) ht.2
  have rx1 : te ≤ sx ∧ sx ≤ len := by rw [hsx]; exact ⟨rx.1, rx.2.1⟩
  refine W_wen (y := iI (sx)) (congrArg iI hsx.symm) ?_
  refine va_put (D := D) (ci := 2) (v := .int (iI (sx))) (ty := .int) (C := RX2) (T := TX2) (N := 13) hx hb hts (by decide +kernel) tyX2 tyX2_ok nmX2 hown hK hP hD hS 0 rfl rfl 4 (by decide) (hts (.fieldLink RX2 43 "BreakSetter$Reader" "tokenStart" "I") (by decide +kernel)) (fun _ h9 => h9) rfl (by decide +kernel) rfl rfl (Nat.le_of_ble_eq_true rfl) dX2_findToken_9 (fun H locs hP hD hS => ?_)
  have hP : va_P D vwCl (wRd q C fk tk sx te st ins po fr to ln ea ++ wTp q C len bs ++ wDr q C dp dw dl dn ds dk a0 a1 a2 a3 a4 a5 a6 a7 a8 a9 aA) H := hP
  have hD : va_D A (wRd q C fk tk sx te st ins po fr to ln ea ++ wTp q C len bs ++ wDr q C dp dw dl dn ds dk a0 a1 a2 a3 a4 a5 a6 a7 a8 a9 aA) := hD
  refine lv_aload_n hx hb dX2_findToken_12 rfl (lv_at hl 0 rfl) ?_
  refine lv_aload_n hx hb dX2_findToken_13 rfl (lv_at hl 0 rfl) ?_
  refine va_get (D := D) (ci := 2) (v := .int (iI (sx))) (C := RX2) (T := TX2) (N := 13) hx hb hts (by decide +kernel) hown hK hP 0 rfl rfl 4 (by decide) (hts (.fieldLink RX2 43 "BreakSetter$Reader" "tokenStart" "I") (by decide +kernel)) (fun _ h9 => h9) rfl dX2_findToken_14 ?_
  refine lv_iconst (v := iI (1)) hx hb dX2_findToken_17 rfl ?_
  refine j_iadd hx hb dX2_findToken_18 ?_
  refine va_put (D := D) (ci := 2) (v := .int (iI (sx + 1))) (ty := .int) (C := RX2) (T := TX2) (N := 13) hx hb hts (by decide +kernel) tyX2 tyX2_ok nmX2 hown hK hP hD hS 0 rfl rfl 5 (by decide) (hts (.fieldLink RX2 32 "BreakSetter$Reader" "tokenEnd" "I") (by decide +kernel)) (fun _ h9 => h9) rfl (by decide +kernel) rfl rfl (Nat.le_of_ble_eq_true rfl) dX2_findToken_19 (fun H locs hP hD hS => ?_)
  have hP : va_P D vwCl (wRd q C fk tk sx (sx + 1) st ins po fr to ln ea ++ wTp q C len bs ++ wDr q C dp dw dl dn ds dk a0 a1 a2 a3 a4 a5 a6 a7 a8 a9 aA) H := hP
  have hD : va_D A (wRd q C fk tk sx (sx + 1) st ins po fr to ln ea ++ wTp q C len bs ++ wDr q C dp dw dl dn ds dk a0 a1 a2 a3 a4 a5 a6 a7 a8 a9 aA) := hD
  refine lv_aload_n hx hb dX2_findToken_22 rfl (lv_at hl 0 rfl) ?_
  refine va_get (D := D) (ci := 2) (v := .ref (q 1)) (C := RX2) (T := TX2) (N := 13) hx hb hts (by decide +kernel) hown hK hP 0 rfl rfl 0 (by decide) (hts (.fieldLink RX2 9 "BreakSetter$Reader" "tape" "LBreakSetter$Tape;") (by decide +kernel)) (fun _ h9 => h9) rfl dX2_findToken_23 ?_
  refine lv_aload_n hx hb dX2_findToken_26 rfl (lv_at hl 0 rfl) ?_
  refine va_get (D := D) (ci := 2) (v := .int (iI (sx))) (C := RX2) (T := TX2) (N := 13) hx hb hts (by decide +kernel) hown hK hP 0 rfl rfl 4 (by decide) (hts (.fieldLink RX2 43 "BreakSetter$Reader" "tokenStart" "I") (by decide +kernel)) (fun _ h9 => h9) rfl dX2_findToken_27 ?_
  refine CR_callV (As := [.int (iI (sx))]) (rest := []) ⟨hx, hb, hml, hown, hts⟩ (c_X4_byteAt ⟨⟨1, rfl⟩, ⟨2, rfl⟩⟩ hlen hbs ⟨by omega, by omega⟩) (cwV 1 hts gX2_findToken_X4_byteAt rfl rfl rfl (by decide +kernel) ⟨Nat.le_of_ble_eq_true rfl, Nat.le_of_ble_eq_true rfl⟩) (q0 := 1) rfl rfl rfl hK hNW hP rfl hl.1 rfl (Nat.le_of_ble_eq_true rfl) dX2_findToken_30 ⟨Nat.zero_le _, Nat.zero_le _⟩ ?_
  have br := bAt_rng (i := sx) hbs hlen.2 (by omega)
  refine lv_istore_n (lv' := [(1, .int (iI (bAt len bs sx))), (0, .ref (q 3))]) hx hb dX2_findToken_33 rfl hl (by decide) rfl (fun ls hl => ?_)
  refine lv_iload_n hx hb dX2_findToken_34 rfl (lv_at hl 0 rfl) ?_
  refine lv_iconst (v := iI (-1)) hx hb dX2_findToken_35 rfl ?_
  refine j_icmp_ne (tgt := 47) hx hb dX2_findToken_36 rfl ⟨by omega, by omega⟩ ⟨by decide, by decide⟩ (fun c36 => ?_) (fun c36 => ?_)
  · skip
    obtain ⟨sl, sb⟩ := br.2.2 c36
    refine lv_iload_n hx hb dX2_findToken_47 rfl (lv_at hl 0 rfl) ?_
    refine lv_bipush (v := iI (59)) hx hb dX2_findToken_48 (by decide) ?_
    refine j_icmp_ne (tgt := 61) hx hb dX2_findToken_50 rfl ⟨by omega, by omega⟩ ⟨by decide, by decide⟩ (fun c50 => ?_) (fun c50 => ?_)
    · skip
      have J75 : ∀  (ls : Array Slot) (H : Heap) (locs : List Loc), (isRn (bs sx)) → (lv_has ls 2 [(1, .int (iI (bAt len bs sx))), (0, .ref (q 3))]) → (va_P D vwCl (wRd q C fk tk sx (sx + 1) st ins po fr to ln ea ++ wTp q C len bs ++ wDr q C dp dw dl dn ds dk a0 a1 a2 a3 a4 a5 a6 a7 a8 a9 aA) H) → (va_D A (wRd q C fk tk sx (sx + 1) st ins po fr to ln ea ++ wTp q C len bs ++ wDr q C dp dw dl dn ds dk a0 a1 a2 a3 a4 a5 a6 a7 a8 a9 aA)) → (va_S A s.heap H locs) → W p l e (rmN 2 43) s m ([.ref (q 3)] : List Value).toArray below meth c H locs 0 0 Q (F0 m 75 ls []) := by
        intro  ls H locs hr hl hP hD hS
        have tr := tkE_r (b := bs) (n := len) (s := sx) sl
        refine lv_aload_n hx hb dX2_findToken_75 rfl (lv_at hl 1 rfl) ?_
        refine lv_aload_n hx hb dX2_findToken_76 rfl (lv_at hl 1 rfl) ?_
        refine lv_aload_n hx hb dX2_findToken_77 rfl (lv_at hl 1 rfl) ?_
        refine va_get (D := D) (ci := 2) (v := .int (iI (sx + 1))) (C := RX2) (T := TX2) (N := 13) hx hb hts (by decide +kernel) hown hK hP 0 rfl rfl 5 (by decide) (hts (.fieldLink RX2 32 "BreakSetter$Reader" "tokenEnd" "I") (by decide +kernel)) (fun _ h9 => h9) rfl dX2_findToken_78 ?_
        refine CR_callV (As := [.int (iI (sx + 1))]) (rest := [.ref (q 3)]) ⟨hx, hb, hml, hown, hts⟩ (c_X2_endOfRun ⟨0, rfl⟩ ⟨⟨1, rfl⟩, ⟨2, rfl⟩⟩ hlen hbs ⟨by omega, by omega⟩) (cwV 1 hts gX2_findToken_X2_endOfRun rfl rfl rfl (by decide +kernel) ⟨Nat.le_of_ble_eq_true rfl, Nat.le_of_ble_eq_true rfl⟩) (q0 := 0) rfl rfl rfl hK hNW hP rfl hl.1 rfl (Nat.le_of_ble_eq_true rfl) dX2_findToken_81 ⟨Nat.zero_le _, Nat.zero_le _⟩ ?_
        refine W_wen (y := iI (tkE bs len sx)) (congrArg iI (tkE_rn ⟨sl, hr⟩).symm) ?_
        refine va_put (D := D) (ci := 2) (v := .int (iI (tkE bs len sx))) (ty := .int) (C := RX2) (T := TX2) (N := 13) hx hb hts (by decide +kernel) tyX2 tyX2_ok nmX2 hown hK hP hD hS 0 rfl rfl 5 (by decide) (hts (.fieldLink RX2 32 "BreakSetter$Reader" "tokenEnd" "I") (by decide +kernel)) (fun _ h9 => h9) rfl (by decide +kernel) rfl rfl (Nat.le_of_ble_eq_true rfl) dX2_findToken_84 (fun H locs hP hD hS => ?_)
        have hP : va_P D vwCl (wRd q C fk tk sx (tkE bs len sx) st ins po fr to ln ea ++ wTp q C len bs ++ wDr q C dp dw dl dn ds dk a0 a1 a2 a3 a4 a5 a6 a7 a8 a9 aA) H := hP
        have hD : va_D A (wRd q C fk tk sx (tkE bs len sx) st ins po fr to ln ea ++ wTp q C len bs ++ wDr q C dp dw dl dn ds dk a0 a1 a2 a3 a4 a5 a6 a7 a8 a9 aA) := hD
        refine lv_aload_n hx hb dX2_findToken_87 rfl (lv_at hl 1 rfl) ?_
        refine lv_aload_n hx hb dX2_findToken_88 rfl (lv_at hl 1 rfl) ?_
        refine CR_callV (As := []) (rest := [.ref (q 3)]) ⟨hx, hb, hml, hown, hts⟩ (c_X2_kindOfRun ⟨0, rfl⟩ ⟨⟨1, rfl⟩, ⟨2, rfl⟩⟩ hlen hbs ⟨by omega, by omega, by omega⟩) (cwV 0 hts gX2_findToken_X2_kindOfRun rfl rfl rfl (by decide +kernel) ⟨Nat.le_of_ble_eq_true rfl, Nat.le_of_ble_eq_true rfl⟩) (q0 := 0) rfl rfl rfl hK hNW hP rfl hl.1 rfl (Nat.le_of_ble_eq_true rfl) dX2_findToken_89 ⟨Nat.zero_le _, Nat.zero_le _⟩ ?_
        refine W_wen (y := iI (tkK bs len sx)) (congrArg iI (kR_tkK hr)) ?_
        refine va_put (D := D) (ci := 2) (v := .int (iI (tkK bs len sx))) (ty := .int) (C := RX2) (T := TX2) (N := 13) hx hb hts (by decide +kernel) tyX2 tyX2_ok nmX2 hown hK hP hD hS 0 rfl rfl 3 (by decide) (hts (.fieldLink RX2 40 "BreakSetter$Reader" "tokenKind" "I") (by decide +kernel)) (fun _ h9 => h9) rfl (by decide +kernel) rfl rfl (Nat.le_of_ble_eq_true rfl) dX2_findToken_92 (fun H locs hP hD hS => ?_)
        have hP : va_P D vwCl (wRd q C fk (tkK bs len sx) sx (tkE bs len sx) st ins po fr to ln ea ++ wTp q C len bs ++ wDr q C dp dw dl dn ds dk a0 a1 a2 a3 a4 a5 a6 a7 a8 a9 aA) H := hP
        have hD : va_D A (wRd q C fk (tkK bs len sx) sx (tkE bs len sx) st ins po fr to ln ea ++ wTp q C len bs ++ wDr q C dp dw dl dn ds dk a0 a1 a2 a3 a4 a5 a6 a7 a8 a9 aA) := hD
        refine lv_goto (tgt := 103) hx hb dX2_findToken_95 rfl ?_
        exact hret H locs ls 103 (tkK bs len sx, sx, tkE bs len sx) dX2_findToken_103 ⟨hsx, Or.inr ⟨by rw [← hsx]; exact sl, by rw [← hsx], by rw [← hsx]⟩⟩ hP hD hS
      refine lv_iload_n hx hb dX2_findToken_61 rfl (lv_at hl 0 rfl) ?_
      refine CR_callS (As := [.int (iI (bAt len bs sx))]) (rest := []) ⟨hx, hb, hml, hown, hts⟩ (c_X2_isLetter ⟨by omega, by omega⟩) (va_cwS 1 hts gX2_findToken_X2_isLetter rfl rfl rfl (by decide +kernel) ⟨Nat.le_of_ble_eq_true rfl, Nat.le_of_ble_eq_true rfl⟩) hK hNW hP rfl hl.1 rfl (Nat.le_of_ble_eq_true rfl) dX2_findToken_62 ⟨Nat.zero_le _, Nat.zero_le _⟩ ?_
      refine j_ifneB (tgt := 75) hx hb dX2_findToken_65 rfl (fun c65 => ?_) (fun c65 => ?_)
      · skip
        exact J75  ls H locs (by rw [← sb]; exact Or.inl c65)  (lv_sub hl [0, 1] rfl) hP hD hS
      · skip
        refine lv_iload_n hx hb dX2_findToken_68 rfl (lv_at hl 0 rfl) ?_
        refine CR_callS (As := [.int (iI (bAt len bs sx))]) (rest := []) ⟨hx, hb, hml, hown, hts⟩ (c_X2_isDigit ⟨by omega, by omega⟩) (va_cwS 1 hts gX2_findToken_X2_isDigit rfl rfl rfl (by decide +kernel) ⟨Nat.le_of_ble_eq_true rfl, Nat.le_of_ble_eq_true rfl⟩) hK hNW hP rfl hl.1 rfl (Nat.le_of_ble_eq_true rfl) dX2_findToken_69 ⟨Nat.zero_le _, Nat.zero_le _⟩ ?_
        refine j_ifeqB (tgt := 98) hx hb dX2_findToken_72 rfl (fun c72 => ?_) (fun c72 => ?_)
        · skip
          have nr : ¬ isRn (bs sx) := fun z => Or.elim z (fun y => c65 (by rw [sb]; exact y)) (fun y => c72 (by rw [sb]; exact y))
          refine lv_aload_n hx hb dX2_findToken_98 rfl (lv_at hl 1 rfl) ?_
          refine lv_iconst (v := iI (0)) hx hb dX2_findToken_99 rfl ?_
          refine va_put (D := D) (ci := 2) (v := .int (iI (0))) (ty := .int) (C := RX2) (T := TX2) (N := 13) hx hb hts (by decide +kernel) tyX2 tyX2_ok nmX2 hown hK hP hD hS 0 rfl rfl 3 (by decide) (hts (.fieldLink RX2 40 "BreakSetter$Reader" "tokenKind" "I") (by decide +kernel)) (fun _ h9 => h9) rfl (by decide +kernel) rfl rfl (Nat.le_of_ble_eq_true rfl) dX2_findToken_100 (fun H locs hP hD hS => ?_)
          have hP : va_P D vwCl (wRd q C fk 0 sx (sx + 1) st ins po fr to ln ea ++ wTp q C len bs ++ wDr q C dp dw dl dn ds dk a0 a1 a2 a3 a4 a5 a6 a7 a8 a9 aA) H := hP
          have hD : va_D A (wRd q C fk 0 sx (sx + 1) st ins po fr to ln ea ++ wTp q C len bs ++ wDr q C dp dw dl dn ds dk a0 a1 a2 a3 a4 a5 a6 a7 a8 a9 aA) := hD
          exact hret H locs ls 103 (0, sx, sx + 1) dX2_findToken_103 ⟨hsx, Or.inr ⟨by rw [← hsx]; exact sl, by rw [← hsx]; exact (tkK_x (by rw [← sb]; exact c50) nr).symm, by rw [← hsx]; exact (tkE_no (fun z => nr z.2)).symm⟩⟩ hP hD hS
        · skip
          exact J75  ls H locs (by rw [← sb]; first | exact Or.inl c65 | exact Or.inr c72)  (lv_sub hl [0, 1] rfl) hP hD hS
    · skip
      refine lv_aload_n hx hb dX2_findToken_53 rfl (lv_at hl 1 rfl) ?_
      refine lv_iconst (v := iI (3)) hx hb dX2_findToken_54 rfl ?_
      refine va_put (D := D) (ci := 2) (v := .int (iI (3))) (ty := .int) (C := RX2) (T := TX2) (N := 13) hx hb hts (by decide +kernel) tyX2 tyX2_ok nmX2 hown hK hP hD hS 0 rfl rfl 3 (by decide) (hts (.fieldLink RX2 40 "BreakSetter$Reader" "tokenKind" "I") (by decide +kernel)) (fun _ h9 => h9) rfl (by decide +kernel) rfl rfl (Nat.le_of_ble_eq_true rfl) dX2_findToken_55 (fun H locs hP hD hS => ?_)
      have hP : va_P D vwCl (wRd q C fk 3 sx (sx + 1) st ins po fr to ln ea ++ wTp q C len bs ++ wDr q C dp dw dl dn ds dk a0 a1 a2 a3 a4 a5 a6 a7 a8 a9 aA) H := hP
      have hD : va_D A (wRd q C fk 3 sx (sx + 1) st ins po fr to ln ea ++ wTp q C len bs ++ wDr q C dp dw dl dn ds dk a0 a1 a2 a3 a4 a5 a6 a7 a8 a9 aA) := hD
      refine lv_goto (tgt := 103) hx hb dX2_findToken_58 rfl ?_
      exact hret H locs ls 103 (3, sx, sx + 1) dX2_findToken_103 ⟨hsx, Or.inr ⟨by rw [← hsx]; exact sl, by rw [← hsx]; exact (tkK_3 (by rw [← sb]; exact c50)).symm, by rw [← hsx]; exact (tkE_no (fun z => isRn_59 z.2 (by rw [← sb]; exact c50))).symm⟩⟩ hP hD hS
  · skip
    refine lv_aload_n hx hb dX2_findToken_39 rfl (lv_at hl 1 rfl) ?_
    refine lv_iconst (v := iI (4)) hx hb dX2_findToken_40 rfl ?_
    refine va_put (D := D) (ci := 2) (v := .int (iI (4))) (ty := .int) (C := RX2) (T := TX2) (N := 13) hx hb hts (by decide +kernel) tyX2 tyX2_ok nmX2 hown hK hP hD hS 0 rfl rfl 3 (by decide) (hts (.fieldLink RX2 40 "BreakSetter$Reader" "tokenKind" "I") (by decide +kernel)) (fun _ h9 => h9) rfl (by decide +kernel) rfl rfl (Nat.le_of_ble_eq_true rfl) dX2_findToken_41 (fun H locs hP hD hS => ?_)
    have hP : va_P D vwCl (wRd q C fk 4 sx (sx + 1) st ins po fr to ln ea ++ wTp q C len bs ++ wDr q C dp dw dl dn ds dk a0 a1 a2 a3 a4 a5 a6 a7 a8 a9 aA) H := hP
    have hD : va_D A (wRd q C fk 4 sx (sx + 1) st ins po fr to ln ea ++ wTp q C len bs ++ wDr q C dp dw dl dn ds dk a0 a1 a2 a3 a4 a5 a6 a7 a8 a9 aA) := hD
    refine lv_goto (tgt := 103) hx hb dX2_findToken_44 rfl ?_
    exact hret H locs ls 103 (4, sx, sx + 1) dX2_findToken_103 ⟨hsx, Or.inl ⟨by rw [← hsx]; exact br.2.1 c36, rfl⟩⟩ hP hD hS

set_option maxHeartbeats 4000000 in
set_option maxRecDepth 100000 in
theorem c_X2_beginPart {l : Launch} {D : va_G} {C : Nat → ClassId} {q : Nat → Nat} {fk tk ts te st ins po fr to ln ea len : Int} {bs : Int → Int} {dp dw dl dn ds dk : Int} {a0 a1 a2 a3 a4 a5 a6 a7 a8 a9 aA : Int → Int} {P : Prop} {nx : Int} : CI (S := Unit) l yX2_beginPart wsX2_beginPart 0 0 D C [.ref (q 3), .int (iI (bI P)), .int (iI (nx))] (wRd q C fk tk ts te st ins po fr to ln ea ++ wTp q C len bs ++ wDr q C dp dw dl dn ds dk a0 a1 a2 a3 a4 a5 a6 a7 a8 a9 aA) (fun _ => wRd q C fk tk ts te nx ins po fr to ln ea ++ wTp q C len bs ++ wDr q C dp dw dl dn ds dk a0 a1 a2 a3 a4 a5 a6 a7 a8 a9 aA) (fun r _ => r = iI (3 * bI P)) := by
  refine CI_of (cc := cX2_beginPart) (maxL := 3) (by decide) rfl (Nat.le_of_ble_eq_true rfl) ?_
  intro p e s m below meth c A Q ls hx hb hml hown hts hK hNW hA hl hP hD hS hret
  have hl : lv_has ls 3 [(0, .ref (q 3)), (1, .int (iI (bI P))), (2, .int (iI (nx)))] := hl
  refine lv_aload_n hx hb dX2_beginPart_0 rfl (lv_at hl 0 rfl) ?_
  refine lv_iload_n hx hb dX2_beginPart_1 rfl (lv_at hl 2 rfl) ?_
  refine va_put (D := D) (ci := 2) (v := .int (iI (nx))) (ty := .int) (C := RX2) (T := TX2) (N := 13) hx hb hts (by decide +kernel) tyX2 tyX2_ok nmX2 hown hK hP hD hS 0 rfl rfl 6 (by decide) (hts (.fieldLink RX2 24 "BreakSetter$Reader" "state" "I") (by decide +kernel)) (fun _ h9 => h9) rfl (by decide +kernel) rfl rfl (Nat.le_of_ble_eq_true rfl) dX2_beginPart_2 (fun H locs hP hD hS => ?_)
  have hP : va_P D vwCl (wRd q C fk tk ts te nx ins po fr to ln ea ++ wTp q C len bs ++ wDr q C dp dw dl dn ds dk a0 a1 a2 a3 a4 a5 a6 a7 a8 a9 aA) H := hP
  have hD : va_D A (wRd q C fk tk ts te nx ins po fr to ln ea ++ wTp q C len bs ++ wDr q C dp dw dl dn ds dk a0 a1 a2 a3 a4 a5 a6 a7 a8 a9 aA) := hD
  refine lv_iload_n hx hb dX2_beginPart_5 rfl (lv_at hl 1 rfl) ?_
  refine j_ifeqB (tgt := 13) hx hb dX2_beginPart_6 rfl (fun c6 => ?_) (fun c6 => ?_)
  · skip
    refine lv_iconst (v := iI (0)) hx hb dX2_beginPart_13 rfl ?_
    exact hret H locs ls 14 _ () dX2_beginPart_14 (by first | (rw [bI_t c6]; rfl; done) | (rw [bI_f c6]; rfl; done)) hP hD hS
  · skip
    refine lv_iconst (v := iI (3)) hx hb dX2_beginPart_9 rfl ?_
    refine lv_goto (tgt := 14) hx hb dX2_beginPart_10 rfl ?_
    exact hret H locs ls 14 _ () dX2_beginPart_14 (by first | (rw [bI_t c6]; rfl; done) | (rw [bI_f c6]; rfl; done)) hP hD hS

set_option maxHeartbeats 4000000 in
set_option maxRecDepth 100000 in
theorem c_X2_acceptWord {K V : Nat → Nat} {l : Launch} {D : va_G} {C : Nat → ClassId} {q : Nat → Nat} {fk tk ts te st ins po fr to ln ea len : Int} {bs : Int → Int} {dp dw dl dn ds dk : Int} {a0 a1 a2 a3 a4 a5 a6 a7 a8 a9 aA : Int → Int} (hlen : 0 ≤ len ∧ len ≤ 640) (hbs : ∀ k : Int, 0 ≤ k → k < 640 → 0 ≤ bs k ∧ bs k < 256) {g : Int → Int} (hM : MI (st, ins, po, fr, to, ln, ea, dn, dl, g)) (hd : DrP g st dp dw ds dk a0 a1 a2 a3 a4 a5 a6 a7 a8 a9 aA) (ht : 0 ≤ ts ∧ ts ≤ te ∧ te ≤ len) : CIX K V (S := Int × Int) l yX2_acceptWord wsX2_acceptWord 5 107 D C [.ref (q 3)] (wRd q C fk tk ts te st ins po fr to ln ea ++ wTp q C len bs ++ wDr q C dp dw dl dn ds dk a0 a1 a2 a3 a4 a5 a6 a7 a8 a9 aA) (fun u => wRd q C fk tk ts te (u.1) (u.2) po fr to ln ea ++ wTp q C len bs ++ wDr q C dp dw dl dn ds dk a0 a1 a2 a3 a4 a5 a6 a7 a8 a9 aA) (fun r u => ∃ z : Int, r = iI z ∧ ((¬ z = 0 ∧ wdS (wid bs ts te) (st, ins, po, fr, to, ln, ea, dn, dl, g) = .inl z) ∨ (z = 0 ∧ wdS (wid bs ts te) (st, ins, po, fr, to, ln, ea, dn, dl, g) = .inr (u.1, u.2, po, fr, to, ln, ea, dn, dl, g) ∧ DrP g u.1 dp dw ds dk a0 a1 a2 a3 a4 a5 a6 a7 a8 a9 aA))) := by
  refine CIX_of (cc := cX2_acceptWord) (maxL := 1) (by decide) rfl (Nat.le_of_ble_eq_true rfl) ?_
  intro p e s m below meth c A Q ls hx hb hml hown hts hK hNW hX hA hl hP hD hS hret
  have hl : lv_has ls 1 [(0, .ref (q 3))] := hl
  have hs0 := hM.1.1
  have hn0 := hM.1.2.2.1
  have h20 := hM.1.2.2.2.1
  have J98 : ∀  (ls : Array Slot) (H : Heap) (locs : List Loc), (¬ (st = 0 ∧ spells bs ts te [112, 111, 115, 116, 115])) → (¬ (st = 1 ∧ spells bs ts te [110, 101, 101, 100])) → (¬ ((st = 1 ∨ st = 2) ∧ spells bs ts te [115, 104, 105, 102, 116])) → (lv_has ls 1 [(0, .ref (q 3))]) → (va_P D vwCl (wRd q C fk tk ts te st ins po fr to ln ea ++ wTp q C len bs ++ wDr q C dp dw dl dn ds dk a0 a1 a2 a3 a4 a5 a6 a7 a8 a9 aA) H) → (va_D A (wRd q C fk tk ts te st ins po fr to ln ea ++ wTp q C len bs ++ wDr q C dp dw dl dn ds dk a0 a1 a2 a3 a4 a5 a6 a7 a8 a9 aA)) → (va_S A s.heap H locs) → W p l e (rmN 5 107) s m ([.ref (q 3)] : List Value).toArray below meth c H locs 0 0 Q (F0 m 98 ls []) := by
    intro  ls H locs n1 n2 n3 hl hP hD hS
    refine lv_aload_n hx hb dX2_acceptWord_98 rfl (lv_at hl 0 rfl) ?_
    refine va_get (D := D) (ci := 2) (v := .int (iI (st))) (C := RX2) (T := TX2) (N := 13) hx hb hts (by decide +kernel) hown hK hP 0 rfl rfl 6 (by decide) (hts (.fieldLink RX2 24 "BreakSetter$Reader" "state" "I") (by decide +kernel)) (fun _ h9 => h9) rfl dX2_acceptWord_99 ?_
    refine lv_iconst (v := iI (3)) hx hb dX2_acceptWord_102 rfl ?_
    refine j_icmp_ne (tgt := 129) hx hb dX2_acceptWord_103 rfl ⟨by omega, by omega⟩ ⟨by decide, by decide⟩ (fun c103 => ?_) (fun c103 => ?_)
    · skip
      refine lv_iconst (v := iI (1)) hx hb dX2_acceptWord_129 rfl ?_
      exact hret H locs ls 130 _ (st, ins) dX2_acceptWord_130 ⟨1, rfl, Or.inl ⟨by decide, wd_no (fun z => n1 ⟨z.1, wid_inv.1 z.2⟩) (fun z => n2 ⟨z.1, wid_inv.2.1 z.2⟩) (fun z => n3 ⟨z.1, wid_inv.2.2.1 z.2⟩) (by exact fun z => c103 z.1)⟩⟩ hP hD hS
    · skip
      refine lv_aload_n hx hb dX2_acceptWord_106 rfl (lv_at hl 0 rfl) ?_
      refine va_ldcS hx hb hown hX.2.2.2.2.2.2 dX2_acceptWord_107 ?_
      refine CRX_callV (As := [.ref (K 3)]) (rest := []) ⟨hx, hb, hml, hown, hts⟩ (c_X2_isToken (i := 3) ⟨0, rfl⟩ ⟨⟨1, rfl⟩, ⟨2, rfl⟩⟩ hlen hbs (by decide) ht) (cwV 1 hts gX2_acceptWord_X2_isToken rfl rfl rfl (by decide +kernel) ⟨Nat.le_of_ble_eq_true rfl, Nat.le_of_ble_eq_true rfl⟩) (va_recv hK hP (q0 := 0) (ci := 2) rfl rfl) hK hNW hX hS hP rfl hl.1 rfl (Nat.le_of_ble_eq_true rfl) dX2_acceptWord_109 ⟨Nat.zero_le _, Nat.zero_le _⟩ ?_
      refine j_ifeqB (tgt := 129) hx hb dX2_acceptWord_112 rfl (fun c112 => ?_) (fun c112 => ?_)
      · skip
        refine lv_iconst (v := iI (1)) hx hb dX2_acceptWord_129 rfl ?_
        exact hret H locs ls 130 _ (st, ins) dX2_acceptWord_130 ⟨1, rfl, Or.inl ⟨by decide, wd_no (fun z => n1 ⟨z.1, wid_inv.1 z.2⟩) (fun z => n2 ⟨z.1, wid_inv.2.1 z.2⟩) (fun z => n3 ⟨z.1, wid_inv.2.2.1 z.2⟩) (by first | exact fun z => c103 z.1 | exact fun z => c112 (wid_inv.2.2.2 z.2))⟩⟩ hP hD hS
      · skip
        have hi := MI_in (q := 3) (by rw [← c103]; exact hM) (Or.inl rfl)
        have hs9 := MI_first (q := 3) (by rw [← c103]; exact hM) (Or.inl rfl)
        have e3 : ds = g 2 + 1 := by have := hd.2.2.1.1; rw [prg_1 (by omega)] at this; exact this
        have e4 : dk = g 3 := hd.2.2.1.2
        have e5 : a5 (ds - 1) = g (151 + 5 * g 2) := by rw [show ds - 1 = g 2 by omega]; exact (hd.2.2.2.2.2.1 (g 2) (by omega) (by rw [prg_1 (by omega)]; omega)).2.2.2.1
        refine lv_aload_n hx hb dX2_acceptWord_115 rfl (lv_at hl 0 rfl) ?_
        refine lv_aload_n hx hb dX2_acceptWord_116 rfl (lv_at hl 0 rfl) ?_
        refine va_get (D := D) (ci := 2) (v := .ref (q 4)) (C := RX2) (T := TX2) (N := 13) hx hb hts (by decide +kernel) hown hK hP 0 rfl rfl 1 (by decide) (hts (.fieldLink RX2 15 "BreakSetter$Reader" "draft" "LBreakSetter$Plan;") (by decide +kernel)) (fun _ h9 => h9) rfl dX2_acceptWord_117 ?_
        refine CR_callV (As := []) (rest := [.ref (q 3)]) ⟨hx, hb, hml, hown, hts⟩ (c_X1_hasAllPausesOfLatestShift ⟨⟨3, rfl⟩, ⟨9, rfl⟩⟩ ⟨by omega, by omega⟩ ⟨by omega, by omega⟩ ⟨⟨by omega, by omega⟩, by omega⟩) (cwV 0 hts gX2_acceptWord_X1_hasAllPausesOfLatestShift rfl rfl rfl (by decide +kernel) ⟨Nat.le_of_ble_eq_true rfl, Nat.le_of_ble_eq_true rfl⟩) (q0 := 3) rfl rfl rfl hK hNW hP rfl hl.1 rfl (Nat.le_of_ble_eq_true rfl) dX2_acceptWord_120 ⟨Nat.zero_le _, Nat.zero_le _⟩ ?_
        refine lv_bipush (v := iI (11)) hx hb dX2_acceptWord_123 (by decide) ?_
        refine CI_callV0 (As := [.int (iI (bI (3 ≤ a5 (ds - 1)))), .int (iI (11))]) (rest := []) ⟨hx, hb, hml, hown, hts⟩ c_X2_beginPart (cwV 2 hts gX2_acceptWord_X2_beginPart rfl rfl rfl (by decide +kernel) ⟨Nat.le_of_ble_eq_true rfl, Nat.le_of_ble_eq_true rfl⟩) (q0 := 0) rfl rfl rfl hK hNW hP hD hS hA rfl hl.1 rfl (Nat.le_of_ble_eq_true rfl) dX2_acceptWord_125 ⟨Nat.zero_le _, Nat.zero_le _⟩ (fun r u9 H locs hw9 hP hD hS => ?_)
        have hw9 : r = iI (3 * (bI (3 ≤ a5 (ds - 1)))) := hw9
        subst hw9
        have hP : va_P D vwCl (wRd q C fk tk ts te 11 ins po fr to ln ea ++ wTp q C len bs ++ wDr q C dp dw dl dn ds dk a0 a1 a2 a3 a4 a5 a6 a7 a8 a9 aA) H := hP
        have hD : va_D A (wRd q C fk tk ts te 11 ins po fr to ln ea ++ wTp q C len bs ++ wDr q C dp dw dl dn ds dk a0 a1 a2 a3 a4 a5 a6 a7 a8 a9 aA) := hD
        exact hret H locs ls 128 _ (11, ins) dX2_acceptWord_128 (by by_cases x : 3 ≤ g (151 + 5 * g 2); (rw [bI_t (by omega)]; exact ⟨3, rfl, Or.inl ⟨by decide, by rw [wid_a c112, c103]; exact if_pos x⟩⟩); (rw [bI_f (by omega)]; exact ⟨0, rfl, Or.inr ⟨rfl, by rw [wid_a c112, c103]; exact if_neg x, DrP_st (st := 3) (by rw [← c103]; exact hd) (by rw [prg_1 (by omega), prg_1 (by omega)]) (fun _ => hd.1 (by omega)) (fun _ => hd.2.1 (by omega))⟩⟩)) hP hD hS
  have J54 : ∀  (ls : Array Slot) (H : Heap) (locs : List Loc), (¬ (st = 0 ∧ spells bs ts te [112, 111, 115, 116, 115])) → (¬ (st = 1 ∧ spells bs ts te [110, 101, 101, 100])) → (lv_has ls 1 [(0, .ref (q 3))]) → (va_P D vwCl (wRd q C fk tk ts te st ins po fr to ln ea ++ wTp q C len bs ++ wDr q C dp dw dl dn ds dk a0 a1 a2 a3 a4 a5 a6 a7 a8 a9 aA) H) → (va_D A (wRd q C fk tk ts te st ins po fr to ln ea ++ wTp q C len bs ++ wDr q C dp dw dl dn ds dk a0 a1 a2 a3 a4 a5 a6 a7 a8 a9 aA)) → (va_S A s.heap H locs) → W p l e (rmN 5 107) s m ([.ref (q 3)] : List Value).toArray below meth c H locs 0 0 Q (F0 m 54 ls []) := by
    intro  ls H locs n1 n2 hl hP hD hS
    refine lv_aload_n hx hb dX2_acceptWord_54 rfl (lv_at hl 0 rfl) ?_
    refine va_get (D := D) (ci := 2) (v := .int (iI (st))) (C := RX2) (T := TX2) (N := 13) hx hb hts (by decide +kernel) hown hK hP 0 rfl rfl 6 (by decide) (hts (.fieldLink RX2 24 "BreakSetter$Reader" "state" "I") (by decide +kernel)) (fun _ h9 => h9) rfl dX2_acceptWord_55 ?_
    refine lv_iconst (v := iI (1)) hx hb dX2_acceptWord_58 rfl ?_
    refine j_icmp_eq (tgt := 70) hx hb dX2_acceptWord_59 rfl ⟨by omega, by omega⟩ ⟨by decide, by decide⟩ (fun c59 => ?_) (fun c59 => ?_)
    · skip
      refine lv_aload_n hx hb dX2_acceptWord_70 rfl (lv_at hl 0 rfl) ?_
      refine va_ldcS hx hb hown hX.2.2.2.2.2.1 dX2_acceptWord_71 ?_
      refine CRX_callV (As := [.ref (K 2)]) (rest := []) ⟨hx, hb, hml, hown, hts⟩ (c_X2_isToken (i := 2) ⟨0, rfl⟩ ⟨⟨1, rfl⟩, ⟨2, rfl⟩⟩ hlen hbs (by decide) ht) (cwV 1 hts gX2_acceptWord_X2_isToken rfl rfl rfl (by decide +kernel) ⟨Nat.le_of_ble_eq_true rfl, Nat.le_of_ble_eq_true rfl⟩) (va_recv hK hP (q0 := 0) (ci := 2) rfl rfl) hK hNW hX hS hP rfl hl.1 rfl (Nat.le_of_ble_eq_true rfl) dX2_acceptWord_73 ⟨Nat.zero_le _, Nat.zero_le _⟩ ?_
      refine j_ifeqB (tgt := 98) hx hb dX2_acceptWord_76 rfl (fun c76 => ?_) (fun c76 => ?_)
      · skip
        exact J98  ls H locs n1 n2 (by exact fun z => c76 z.2)  (lv_sub hl [0] rfl) hP hD hS
      · skip
        refine lv_aload_n hx hb dX2_acceptWord_79 rfl (lv_at hl 0 rfl) ?_
        refine lv_iconst (v := iI (1)) hx hb dX2_acceptWord_80 rfl ?_
        refine va_put (D := D) (ci := 2) (v := .int (iI (1))) (ty := .boolean) (C := RX2) (T := TX2) (N := 13) hx hb hts (by decide +kernel) tyX2 tyX2_ok nmX2 hown hK hP hD hS 0 rfl rfl 7 (by decide) (hts (.fieldLink RX2 28 "BreakSetter$Reader" "inShift" "Z") (by decide +kernel)) (fun _ h9 => h9) rfl (by decide +kernel) rfl rfl (Nat.le_of_ble_eq_true rfl) dX2_acceptWord_81 (fun H locs hP hD hS => ?_)
        have hP : va_P D vwCl (wRd q C fk tk ts te st 1 po fr to ln ea ++ wTp q C len bs ++ wDr q C dp dw dl dn ds dk a0 a1 a2 a3 a4 a5 a6 a7 a8 a9 aA) H := hP
        have hD : va_D A (wRd q C fk tk ts te st 1 po fr to ln ea ++ wTp q C len bs ++ wDr q C dp dw dl dn ds dk a0 a1 a2 a3 a4 a5 a6 a7 a8 a9 aA) := hD
        have e3 : ds = g 2 := by have := hd.2.2.1.1; rw [prg_0 (by omega)] at this; omega
        refine lv_aload_n hx hb dX2_acceptWord_84 rfl (lv_at hl 0 rfl) ?_
        refine lv_aload_n hx hb dX2_acceptWord_85 rfl (lv_at hl 0 rfl) ?_
        refine va_get (D := D) (ci := 2) (v := .ref (q 4)) (C := RX2) (T := TX2) (N := 13) hx hb hts (by decide +kernel) hown hK hP 0 rfl rfl 1 (by decide) (hts (.fieldLink RX2 15 "BreakSetter$Reader" "draft" "LBreakSetter$Plan;") (by decide +kernel)) (fun _ h9 => h9) rfl dX2_acceptWord_86 ?_
        refine CR_callV (As := []) (rest := [.ref (q 3)]) ⟨hx, hb, hml, hown, hts⟩ (c_X1_hasAllShifts ⟨⟨3, rfl⟩, ⟨9, rfl⟩⟩ (by have := hd.2.2.1.1; rw [prg_0 (by omega)] at this; omega)) (cwV 0 hts gX2_acceptWord_X1_hasAllShifts rfl rfl rfl (by decide +kernel) ⟨Nat.le_of_ble_eq_true rfl, Nat.le_of_ble_eq_true rfl⟩) (q0 := 3) rfl rfl rfl hK hNW hP rfl hl.1 rfl (Nat.le_of_ble_eq_true rfl) dX2_acceptWord_89 ⟨Nat.zero_le _, Nat.zero_le _⟩ ?_
        refine lv_bipush (v := iI (7)) hx hb dX2_acceptWord_92 (by decide) ?_
        refine CI_callV0 (As := [.int (iI (bI (8 ≤ ds))), .int (iI (7))]) (rest := []) ⟨hx, hb, hml, hown, hts⟩ c_X2_beginPart (cwV 2 hts gX2_acceptWord_X2_beginPart rfl rfl rfl (by decide +kernel) ⟨Nat.le_of_ble_eq_true rfl, Nat.le_of_ble_eq_true rfl⟩) (q0 := 0) rfl rfl rfl hK hNW hP hD hS hA rfl hl.1 rfl (Nat.le_of_ble_eq_true rfl) dX2_acceptWord_94 ⟨Nat.zero_le _, Nat.zero_le _⟩ (fun r u9 H locs hw9 hP hD hS => ?_)
        have hw9 : r = iI (3 * (bI (8 ≤ ds))) := hw9
        subst hw9
        have hP : va_P D vwCl (wRd q C fk tk ts te 7 1 po fr to ln ea ++ wTp q C len bs ++ wDr q C dp dw dl dn ds dk a0 a1 a2 a3 a4 a5 a6 a7 a8 a9 aA) H := hP
        have hD : va_D A (wRd q C fk tk ts te 7 1 po fr to ln ea ++ wTp q C len bs ++ wDr q C dp dw dl dn ds dk a0 a1 a2 a3 a4 a5 a6 a7 a8 a9 aA) := hD
        exact hret H locs ls 97 _ (7, 1) dX2_acceptWord_97 (by have hq : st = 1 ∨ st = 2 := (by omega); (by_cases x : 8 ≤ g 2; (rw [bI_t (by omega)]; exact ⟨3, rfl, Or.inl ⟨by decide, by rw [wid_s c76, wd_shift hq]; exact if_pos x⟩⟩); (rw [bI_f (by omega)]; exact ⟨0, rfl, Or.inr ⟨rfl, by rw [wid_s c76, wd_shift hq]; exact if_neg x, DrP_st hd (by rw [prg_0 (by omega), prg_0 (by omega)]) (fun _ => hd.1 (by omega)) (fun _ => hd.2.1 (by omega))⟩⟩))) hP hD hS
    · skip
      refine lv_aload_n hx hb dX2_acceptWord_62 rfl (lv_at hl 0 rfl) ?_
      refine va_get (D := D) (ci := 2) (v := .int (iI (st))) (C := RX2) (T := TX2) (N := 13) hx hb hts (by decide +kernel) hown hK hP 0 rfl rfl 6 (by decide) (hts (.fieldLink RX2 24 "BreakSetter$Reader" "state" "I") (by decide +kernel)) (fun _ h9 => h9) rfl dX2_acceptWord_63 ?_
      refine lv_iconst (v := iI (2)) hx hb dX2_acceptWord_66 rfl ?_
      refine j_icmp_ne (tgt := 98) hx hb dX2_acceptWord_67 rfl ⟨by omega, by omega⟩ ⟨by decide, by decide⟩ (fun c67 => ?_) (fun c67 => ?_)
      · skip
        exact J98  ls H locs n1 n2 (by exact fun z => Or.elim z.1 c59 c67)  (lv_sub hl [0] rfl) hP hD hS
      · skip
        refine lv_aload_n hx hb dX2_acceptWord_70 rfl (lv_at hl 0 rfl) ?_
        refine va_ldcS hx hb hown hX.2.2.2.2.2.1 dX2_acceptWord_71 ?_
        refine CRX_callV (As := [.ref (K 2)]) (rest := []) ⟨hx, hb, hml, hown, hts⟩ (c_X2_isToken (i := 2) ⟨0, rfl⟩ ⟨⟨1, rfl⟩, ⟨2, rfl⟩⟩ hlen hbs (by decide) ht) (cwV 1 hts gX2_acceptWord_X2_isToken rfl rfl rfl (by decide +kernel) ⟨Nat.le_of_ble_eq_true rfl, Nat.le_of_ble_eq_true rfl⟩) (va_recv hK hP (q0 := 0) (ci := 2) rfl rfl) hK hNW hX hS hP rfl hl.1 rfl (Nat.le_of_ble_eq_true rfl) dX2_acceptWord_73 ⟨Nat.zero_le _, Nat.zero_le _⟩ ?_
        refine j_ifeqB (tgt := 98) hx hb dX2_acceptWord_76 rfl (fun c76 => ?_) (fun c76 => ?_)
        · skip
          exact J98  ls H locs n1 n2 (by first | exact fun z => Or.elim z.1 c59 c67 | exact fun z => c76 z.2)  (lv_sub hl [0] rfl) hP hD hS
        · skip
          refine lv_aload_n hx hb dX2_acceptWord_79 rfl (lv_at hl 0 rfl) ?_
          refine lv_iconst (v := iI (1)) hx hb dX2_acceptWord_80 rfl ?_
          refine va_put (D := D) (ci := 2) (v := .int (iI (1))) (ty := .boolean) (C := RX2) (T := TX2) (N := 13) hx hb hts (by decide +kernel) tyX2 tyX2_ok nmX2 hown hK hP hD hS 0 rfl rfl 7 (by decide) (hts (.fieldLink RX2 28 "BreakSetter$Reader" "inShift" "Z") (by decide +kernel)) (fun _ h9 => h9) rfl (by decide +kernel) rfl rfl (Nat.le_of_ble_eq_true rfl) dX2_acceptWord_81 (fun H locs hP hD hS => ?_)
          have hP : va_P D vwCl (wRd q C fk tk ts te st 1 po fr to ln ea ++ wTp q C len bs ++ wDr q C dp dw dl dn ds dk a0 a1 a2 a3 a4 a5 a6 a7 a8 a9 aA) H := hP
          have hD : va_D A (wRd q C fk tk ts te st 1 po fr to ln ea ++ wTp q C len bs ++ wDr q C dp dw dl dn ds dk a0 a1 a2 a3 a4 a5 a6 a7 a8 a9 aA) := hD
          have e3 : ds = g 2 := by have := hd.2.2.1.1; rw [prg_0 (by omega)] at this; omega
          refine lv_aload_n hx hb dX2_acceptWord_84 rfl (lv_at hl 0 rfl) ?_
          refine lv_aload_n hx hb dX2_acceptWord_85 rfl (lv_at hl 0 rfl) ?_
          refine va_get (D := D) (ci := 2) (v := .ref (q 4)) (C := RX2) (T := TX2) (N := 13) hx hb hts (by decide +kernel) hown hK hP 0 rfl rfl 1 (by decide) (hts (.fieldLink RX2 15 "BreakSetter$Reader" "draft" "LBreakSetter$Plan;") (by decide +kernel)) (fun _ h9 => h9) rfl dX2_acceptWord_86 ?_
          refine CR_callV (As := []) (rest := [.ref (q 3)]) ⟨hx, hb, hml, hown, hts⟩ (c_X1_hasAllShifts ⟨⟨3, rfl⟩, ⟨9, rfl⟩⟩ (by have := hd.2.2.1.1; rw [prg_0 (by omega)] at this; omega)) (cwV 0 hts gX2_acceptWord_X1_hasAllShifts rfl rfl rfl (by decide +kernel) ⟨Nat.le_of_ble_eq_true rfl, Nat.le_of_ble_eq_true rfl⟩) (q0 := 3) rfl rfl rfl hK hNW hP rfl hl.1 rfl (Nat.le_of_ble_eq_true rfl) dX2_acceptWord_89 ⟨Nat.zero_le _, Nat.zero_le _⟩ ?_
          refine lv_bipush (v := iI (7)) hx hb dX2_acceptWord_92 (by decide) ?_
          refine CI_callV0 (As := [.int (iI (bI (8 ≤ ds))), .int (iI (7))]) (rest := []) ⟨hx, hb, hml, hown, hts⟩ c_X2_beginPart (cwV 2 hts gX2_acceptWord_X2_beginPart rfl rfl rfl (by decide +kernel) ⟨Nat.le_of_ble_eq_true rfl, Nat.le_of_ble_eq_true rfl⟩) (q0 := 0) rfl rfl rfl hK hNW hP hD hS hA rfl hl.1 rfl (Nat.le_of_ble_eq_true rfl) dX2_acceptWord_94 ⟨Nat.zero_le _, Nat.zero_le _⟩ (fun r u9 H locs hw9 hP hD hS => ?_)
          have hw9 : r = iI (3 * (bI (8 ≤ ds))) := hw9
          subst hw9
          have hP : va_P D vwCl (wRd q C fk tk ts te 7 1 po fr to ln ea ++ wTp q C len bs ++ wDr q C dp dw dl dn ds dk a0 a1 a2 a3 a4 a5 a6 a7 a8 a9 aA) H := hP
          have hD : va_D A (wRd q C fk tk ts te 7 1 po fr to ln ea ++ wTp q C len bs ++ wDr q C dp dw dl dn ds dk a0 a1 a2 a3 a4 a5 a6 a7 a8 a9 aA) := hD
          exact hret H locs ls 97 _ (7, 1) dX2_acceptWord_97 (by have hq : st = 1 ∨ st = 2 := (by omega); (by_cases x : 8 ≤ g 2; (rw [bI_t (by omega)]; exact ⟨3, rfl, Or.inl ⟨by decide, by rw [wid_s c76, wd_shift hq]; exact if_pos x⟩⟩); (rw [bI_f (by omega)]; exact ⟨0, rfl, Or.inr ⟨rfl, by rw [wid_s c76, wd_shift hq]; exact if_neg x, DrP_st hd (by rw [prg_0 (by omega), prg_0 (by omega)]) (fun _ => hd.1 (by omega)) (fun _ => hd.2.1 (by omega))⟩⟩))) hP hD hS
  have J23 : ∀  (ls : Array Slot) (H : Heap) (locs : List Loc), (¬ (st = 0 ∧ spells bs ts te [112, 111, 115, 116, 115])) → (lv_has ls 1 [(0, .ref (q 3))]) → (va_P D vwCl (wRd q C fk tk ts te st ins po fr to ln ea ++ wTp q C len bs ++ wDr q C dp dw dl dn ds dk a0 a1 a2 a3 a4 a5 a6 a7 a8 a9 aA) H) → (va_D A (wRd q C fk tk ts te st ins po fr to ln ea ++ wTp q C len bs ++ wDr q C dp dw dl dn ds dk a0 a1 a2 a3 a4 a5 a6 a7 a8 a9 aA)) → (va_S A s.heap H locs) → W p l e (rmN 5 107) s m ([.ref (q 3)] : List Value).toArray below meth c H locs 0 0 Q (F0 m 23 ls []) := by
    intro  ls H locs n1 hl hP hD hS
    refine lv_aload_n hx hb dX2_acceptWord_23 rfl (lv_at hl 0 rfl) ?_
    refine va_get (D := D) (ci := 2) (v := .int (iI (st))) (C := RX2) (T := TX2) (N := 13) hx hb hts (by decide +kernel) hown hK hP 0 rfl rfl 6 (by decide) (hts (.fieldLink RX2 24 "BreakSetter$Reader" "state" "I") (by decide +kernel)) (fun _ h9 => h9) rfl dX2_acceptWord_24 ?_
    refine lv_iconst (v := iI (1)) hx hb dX2_acceptWord_27 rfl ?_
    refine j_icmp_ne (tgt := 54) hx hb dX2_acceptWord_28 rfl ⟨by omega, by omega⟩ ⟨by decide, by decide⟩ (fun c28 => ?_) (fun c28 => ?_)
    · skip
      exact J54  ls H locs n1 (by exact fun z => c28 z.1)  (lv_sub hl [0] rfl) hP hD hS
    · skip
      refine lv_aload_n hx hb dX2_acceptWord_31 rfl (lv_at hl 0 rfl) ?_
      refine va_ldcS hx hb hown hX.2.2.2.2.1 dX2_acceptWord_32 ?_
      refine CRX_callV (As := [.ref (K 1)]) (rest := []) ⟨hx, hb, hml, hown, hts⟩ (c_X2_isToken (i := 1) ⟨0, rfl⟩ ⟨⟨1, rfl⟩, ⟨2, rfl⟩⟩ hlen hbs (by decide) ht) (cwV 1 hts gX2_acceptWord_X2_isToken rfl rfl rfl (by decide +kernel) ⟨Nat.le_of_ble_eq_true rfl, Nat.le_of_ble_eq_true rfl⟩) (va_recv hK hP (q0 := 0) (ci := 2) rfl rfl) hK hNW hX hS hP rfl hl.1 rfl (Nat.le_of_ble_eq_true rfl) dX2_acceptWord_34 ⟨Nat.zero_le _, Nat.zero_le _⟩ ?_
      refine j_ifeqB (tgt := 54) hx hb dX2_acceptWord_37 rfl (fun c37 => ?_) (fun c37 => ?_)
      · skip
        exact J54  ls H locs n1 (by first | exact fun z => c28 z.1 | exact fun z => c37 z.2)  (lv_sub hl [0] rfl) hP hD hS
      · skip
        refine lv_aload_n hx hb dX2_acceptWord_40 rfl (lv_at hl 0 rfl) ?_
        refine lv_aload_n hx hb dX2_acceptWord_41 rfl (lv_at hl 0 rfl) ?_
        refine va_get (D := D) (ci := 2) (v := .ref (q 4)) (C := RX2) (T := TX2) (N := 13) hx hb hts (by decide +kernel) hown hK hP 0 rfl rfl 1 (by decide) (hts (.fieldLink RX2 15 "BreakSetter$Reader" "draft" "LBreakSetter$Plan;") (by decide +kernel)) (fun _ h9 => h9) rfl dX2_acceptWord_42 ?_
        refine CR_callV (As := []) (rest := [.ref (q 3)]) ⟨hx, hb, hml, hown, hts⟩ (c_X1_hasAllNeeds ⟨⟨3, rfl⟩, ⟨9, rfl⟩⟩ ⟨by omega, by omega⟩) (cwV 0 hts gX2_acceptWord_X1_hasAllNeeds rfl rfl rfl (by decide +kernel) ⟨Nat.le_of_ble_eq_true rfl, Nat.le_of_ble_eq_true rfl⟩) (q0 := 3) rfl rfl rfl hK hNW hP rfl hl.1 rfl (Nat.le_of_ble_eq_true rfl) dX2_acceptWord_45 ⟨Nat.zero_le _, Nat.zero_le _⟩ ?_
        refine lv_bipush (v := iI (7)) hx hb dX2_acceptWord_48 (by decide) ?_
        refine CI_callV0 (As := [.int (iI (bI (10 ≤ dn))), .int (iI (7))]) (rest := []) ⟨hx, hb, hml, hown, hts⟩ c_X2_beginPart (cwV 2 hts gX2_acceptWord_X2_beginPart rfl rfl rfl (by decide +kernel) ⟨Nat.le_of_ble_eq_true rfl, Nat.le_of_ble_eq_true rfl⟩) (q0 := 0) rfl rfl rfl hK hNW hP hD hS hA rfl hl.1 rfl (Nat.le_of_ble_eq_true rfl) dX2_acceptWord_50 ⟨Nat.zero_le _, Nat.zero_le _⟩ (fun r u9 H locs hw9 hP hD hS => ?_)
        have hw9 : r = iI (3 * (bI (10 ≤ dn))) := hw9
        subst hw9
        have hP : va_P D vwCl (wRd q C fk tk ts te 7 ins po fr to ln ea ++ wTp q C len bs ++ wDr q C dp dw dl dn ds dk a0 a1 a2 a3 a4 a5 a6 a7 a8 a9 aA) H := hP
        have hD : va_D A (wRd q C fk tk ts te 7 ins po fr to ln ea ++ wTp q C len bs ++ wDr q C dp dw dl dn ds dk a0 a1 a2 a3 a4 a5 a6 a7 a8 a9 aA) := hD
        exact hret H locs ls 53 _ (7, ins) dX2_acceptWord_53 (by by_cases x : 10 ≤ dn; (rw [bI_t x]; exact ⟨3, rfl, Or.inl ⟨by decide, by rw [wid_n c37, c28]; exact if_pos x⟩⟩); (rw [bI_f x]; exact ⟨0, rfl, Or.inr ⟨rfl, by rw [wid_n c37, c28]; exact if_neg x, DrP_st (st := 1) (by rw [← c28]; exact hd) (by rw [prg_0 (by omega), prg_0 (by omega)]) (fun _ => hd.1 (by omega)) (fun _ => hd.2.1 (by omega))⟩⟩)) hP hD hS
  refine lv_aload_n hx hb dX2_acceptWord_0 rfl (lv_at hl 0 rfl) ?_
  refine va_get (D := D) (ci := 2) (v := .int (iI (st))) (C := RX2) (T := TX2) (N := 13) hx hb hts (by decide +kernel) hown hK hP 0 rfl rfl 6 (by decide) (hts (.fieldLink RX2 24 "BreakSetter$Reader" "state" "I") (by decide +kernel)) (fun _ h9 => h9) rfl dX2_acceptWord_1 ?_
  refine j_if_ne (tgt := 23) hx hb dX2_acceptWord_4 rfl ⟨by omega, by omega⟩ (fun c4 => ?_) (fun c4 => ?_)
  · skip
    exact J23  ls s.heap [] (by exact fun z => c4 z.1)  (lv_sub hl [0] rfl) hP hD hS
  · skip
    refine lv_aload_n hx hb dX2_acceptWord_7 rfl (lv_at hl 0 rfl) ?_
    refine va_ldcS hx hb hown hX.2.2.2.1 dX2_acceptWord_8 ?_
    refine CRX_callV (As := [.ref (K 0)]) (rest := []) ⟨hx, hb, hml, hown, hts⟩ (c_X2_isToken (i := 0) ⟨0, rfl⟩ ⟨⟨1, rfl⟩, ⟨2, rfl⟩⟩ hlen hbs (by decide) ht) (cwV 1 hts gX2_acceptWord_X2_isToken rfl rfl rfl (by decide +kernel) ⟨Nat.le_of_ble_eq_true rfl, Nat.le_of_ble_eq_true rfl⟩) (va_recv hK hP (q0 := 0) (ci := 2) rfl rfl) hK hNW hX hS hP rfl hl.1 rfl (Nat.le_of_ble_eq_true rfl) dX2_acceptWord_10 ⟨Nat.zero_le _, Nat.zero_le _⟩ ?_
    refine j_ifeqB (tgt := 23) hx hb dX2_acceptWord_13 rfl (fun c13 => ?_) (fun c13 => ?_)
    · skip
      exact J23  ls s.heap [] (by first | exact fun z => c4 z.1 | exact fun z => c13 z.2)  (lv_sub hl [0] rfl) hP hD hS
    · skip
      refine lv_aload_n hx hb dX2_acceptWord_16 rfl (lv_at hl 0 rfl) ?_
      refine lv_iconst (v := iI (5)) hx hb dX2_acceptWord_17 rfl ?_
      refine va_put (D := D) (ci := 2) (v := .int (iI (5))) (ty := .int) (C := RX2) (T := TX2) (N := 13) hx hb hts (by decide +kernel) tyX2 tyX2_ok nmX2 hown hK hP hD hS 0 rfl rfl 6 (by decide) (hts (.fieldLink RX2 24 "BreakSetter$Reader" "state" "I") (by decide +kernel)) (fun _ h9 => h9) rfl (by decide +kernel) rfl rfl (Nat.le_of_ble_eq_true rfl) dX2_acceptWord_18 (fun H locs hP hD hS => ?_)
      have hP : va_P D vwCl (wRd q C fk tk ts te 5 ins po fr to ln ea ++ wTp q C len bs ++ wDr q C dp dw dl dn ds dk a0 a1 a2 a3 a4 a5 a6 a7 a8 a9 aA) H := hP
      have hD : va_D A (wRd q C fk tk ts te 5 ins po fr to ln ea ++ wTp q C len bs ++ wDr q C dp dw dl dn ds dk a0 a1 a2 a3 a4 a5 a6 a7 a8 a9 aA) := hD
      refine lv_iconst (v := iI (0)) hx hb dX2_acceptWord_21 rfl ?_
      exact hret H locs ls 22 _ (5, ins) dX2_acceptWord_22 ⟨0, rfl, Or.inr ⟨rfl, by rw [wid_p c13, c4]; rfl, DrP_st (st := 0) (by rw [← c4]; exact hd) (by rw [prg_0 (by omega), prg_0 (by omega)]) (fun z => absurd (Or.inr rfl) z) (fun z => absurd (Or.inr (Or.inl rfl)) z)⟩⟩ hP hD hS

set_option maxHeartbeats 4000000 in
set_option maxRecDepth 100000 in
theorem c_X2_acceptSign {l : Launch} {D : va_G} {C : Nat → ClassId} {q : Nat → Nat} {fk tk ts te st ins po fr to ln ea len : Int} {bs : Int → Int} {dp dw dl dn ds dk : Int} {a0 a1 a2 a3 a4 a5 a6 a7 a8 a9 aA : Int → Int} {g : Int → Int} (hM : MI (st, ins, po, fr, to, ln, ea, dn, dl, g)) (hd : DrP g st dp dw ds dk a0 a1 a2 a3 a4 a5 a6 a7 a8 a9 aA)  : CI (S := Int × Int) l yX2_acceptSign wsX2_acceptSign 0 0 D C [.ref (q 3)] (wRd q C fk tk ts te st ins po fr to ln ea ++ wTp q C len bs ++ wDr q C dp dw dl dn ds dk a0 a1 a2 a3 a4 a5 a6 a7 a8 a9 aA) (fun u => wRd q C fk tk ts te (u.2) ins po fr to ln ea ++ wTp q C len bs ++ wDr q C dp dw (u.1) dn ds dk a0 a1 a2 a3 a4 a5 a6 a7 a8 a9 aA) (fun r u => ∃ z : Int, r = iI z ∧ ((¬ z = 0 ∧ siS (st, ins, po, fr, to, ln, ea, dn, dl, g) = .inl z) ∨ (z = 0 ∧ ∃ g' : Int → Int, siS (st, ins, po, fr, to, ln, ea, dn, dl, g) = .inr (u.2, ins, po, fr, to, ln, ea, dn, u.1, g') ∧ DrP g' u.2 dp dw ds dk a0 a1 a2 a3 a4 a5 a6 a7 a8 a9 aA))) := by
  refine CI_of (cc := cX2_acceptSign) (maxL := 1) (by decide) rfl (Nat.le_of_ble_eq_true rfl) ?_
  intro p e s m below meth c A Q ls hx hb hml hown hts hK hNW hA hl hP hD hS hret
  have hl : lv_has ls 1 [(0, .ref (q 3))] := hl
  have hs0 := hM.1.1
  have hi0 := hM.1.2.1
  refine lv_aload_n hx hb dX2_acceptSign_0 rfl (lv_at hl 0 rfl) ?_
  refine va_get (D := D) (ci := 2) (v := .int (iI (st))) (C := RX2) (T := TX2) (N := 13) hx hb hts (by decide +kernel) hown hK hP 0 rfl rfl 6 (by decide) (hts (.fieldLink RX2 24 "BreakSetter$Reader" "state" "I") (by decide +kernel)) (fun _ h9 => h9) rfl dX2_acceptSign_1 ?_
  refine lv_iconst (v := iI (4)) hx hb dX2_acceptSign_4 rfl ?_
  refine j_icmp_eq (tgt := 18) hx hb dX2_acceptSign_5 rfl ⟨by omega, by omega⟩ ⟨by decide, by decide⟩ (fun c5 => ?_) (fun c5 => ?_)
  · skip
    have hi : ins = 0 := (MI_4 (by rw [← c5]; exact hM)).1
    refine lv_aload_n hx hb dX2_acceptSign_18 rfl (lv_at hl 0 rfl) ?_
    refine va_get (D := D) (ci := 2) (v := .ref (q 4)) (C := RX2) (T := TX2) (N := 13) hx hb hts (by decide +kernel) hown hK hP 0 rfl rfl 1 (by decide) (hts (.fieldLink RX2 15 "BreakSetter$Reader" "draft" "LBreakSetter$Plan;") (by decide +kernel)) (fun _ h9 => h9) rfl dX2_acceptSign_19 ?_
    refine lv_dup hx hb dX2_acceptSign_22 rfl ?_
    refine va_get (D := D) (ci := 1) (v := .int (iI (dl))) (C := RX1) (T := TX1) (N := 17) hx hb hts (by decide +kernel) hown hK hP 3 rfl rfl 2 (by decide) (hts (.fieldLink RX2 128 "BreakSetter$Plan" "lines" "I") (by decide +kernel)) (fun _ h9 => h9) rfl dX2_acceptSign_23 ?_
    refine lv_iconst (v := iI (1)) hx hb dX2_acceptSign_26 rfl ?_
    refine j_iadd hx hb dX2_acceptSign_27 ?_
    refine va_put (D := D) (ci := 1) (v := .int (iI (dl + 1))) (ty := .int) (C := RX1) (T := TX1) (N := 17) hx hb hts (by decide +kernel) tyX1 tyX1_ok nmX1 hown hK hP hD hS 3 rfl rfl 2 (by decide) (hts (.fieldLink RX2 128 "BreakSetter$Plan" "lines" "I") (by decide +kernel)) (fun _ h9 => h9) rfl (by decide +kernel) rfl rfl (Nat.le_of_ble_eq_true rfl) dX2_acceptSign_28 (fun H locs hP hD hS => ?_)
    have hP : va_P D vwCl (wRd q C fk tk ts te st ins po fr to ln ea ++ wTp q C len bs ++ wDr q C dp dw (dl + 1) dn ds dk a0 a1 a2 a3 a4 a5 a6 a7 a8 a9 aA) H := hP
    have hD : va_D A (wRd q C fk tk ts te st ins po fr to ln ea ++ wTp q C len bs ++ wDr q C dp dw (dl + 1) dn ds dk a0 a1 a2 a3 a4 a5 a6 a7 a8 a9 aA) := hD
    refine lv_aload_n hx hb dX2_acceptSign_31 rfl (lv_at hl 0 rfl) ?_
    refine lv_aload_n hx hb dX2_acceptSign_32 rfl (lv_at hl 0 rfl) ?_
    refine va_get (D := D) (ci := 2) (v := .int (iI (ins))) (C := RX2) (T := TX2) (N := 13) hx hb hts (by decide +kernel) hown hK hP 0 rfl rfl 7 (by decide) (hts (.fieldLink RX2 28 "BreakSetter$Reader" "inShift" "Z") (by decide +kernel)) (fun _ h9 => h9) rfl dX2_acceptSign_33 ?_
    refine j_if_eq (tgt := 43) hx hb dX2_acceptSign_36 rfl ⟨by omega, by omega⟩ (fun c36 => ?_) (fun c36 => ?_)
    · skip
      refine lv_iconst (v := iI (1)) hx hb dX2_acceptSign_43 rfl ?_
      refine va_put (D := D) (ci := 2) (v := .int (iI (1))) (ty := .int) (C := RX2) (T := TX2) (N := 13) hx hb hts (by decide +kernel) tyX2 tyX2_ok nmX2 hown hK hP hD hS 0 rfl rfl 6 (by decide) (hts (.fieldLink RX2 24 "BreakSetter$Reader" "state" "I") (by decide +kernel)) (fun _ h9 => h9) rfl (by decide +kernel) rfl rfl (Nat.le_of_ble_eq_true rfl) dX2_acceptSign_44 (fun H locs hP hD hS => ?_)
      have hP : va_P D vwCl (wRd q C fk tk ts te 1 ins po fr to ln ea ++ wTp q C len bs ++ wDr q C dp dw (dl + 1) dn ds dk a0 a1 a2 a3 a4 a5 a6 a7 a8 a9 aA) H := hP
      have hD : va_D A (wRd q C fk tk ts te 1 ins po fr to ln ea ++ wTp q C len bs ++ wDr q C dp dw (dl + 1) dn ds dk a0 a1 a2 a3 a4 a5 a6 a7 a8 a9 aA) := hD
      refine lv_iconst (v := iI (0)) hx hb dX2_acceptSign_47 rfl ?_
      exact hret H locs ls 48 _ (dl + 1, 1) dX2_acceptSign_48 ⟨0, rfl, Or.inr ⟨rfl, g, by rw [si_yes (by omega), if_neg (by omega), if_neg (by omega)], DrP_st (st := 4) (by rw [← c5]; exact hd) (by rw [prg_0 (by omega), prg_0 (by omega)]) (fun _ => hd.1 (by omega)) (fun _ => hd.2.1 (by omega))⟩⟩ hP hD hS
    · skip
      omega
  · skip
    refine lv_aload_n hx hb dX2_acceptSign_8 rfl (lv_at hl 0 rfl) ?_
    refine va_get (D := D) (ci := 2) (v := .int (iI (st))) (C := RX2) (T := TX2) (N := 13) hx hb hts (by decide +kernel) hown hK hP 0 rfl rfl 6 (by decide) (hts (.fieldLink RX2 24 "BreakSetter$Reader" "state" "I") (by decide +kernel)) (fun _ h9 => h9) rfl dX2_acceptSign_9 ?_
    refine lv_iconst (v := iI (3)) hx hb dX2_acceptSign_12 rfl ?_
    refine j_icmp_eq (tgt := 18) hx hb dX2_acceptSign_13 rfl ⟨by omega, by omega⟩ ⟨by decide, by decide⟩ (fun c13 => ?_) (fun c13 => ?_)
    · skip
      have hi : ins = 1 := (MI_3 (by rw [← c13]; exact hM)).1
      have hj := MI_in (q := 3) (by rw [← c13]; exact hM) (Or.inl rfl)
      refine lv_aload_n hx hb dX2_acceptSign_18 rfl (lv_at hl 0 rfl) ?_
      refine va_get (D := D) (ci := 2) (v := .ref (q 4)) (C := RX2) (T := TX2) (N := 13) hx hb hts (by decide +kernel) hown hK hP 0 rfl rfl 1 (by decide) (hts (.fieldLink RX2 15 "BreakSetter$Reader" "draft" "LBreakSetter$Plan;") (by decide +kernel)) (fun _ h9 => h9) rfl dX2_acceptSign_19 ?_
      refine lv_dup hx hb dX2_acceptSign_22 rfl ?_
      refine va_get (D := D) (ci := 1) (v := .int (iI (dl))) (C := RX1) (T := TX1) (N := 17) hx hb hts (by decide +kernel) hown hK hP 3 rfl rfl 2 (by decide) (hts (.fieldLink RX2 128 "BreakSetter$Plan" "lines" "I") (by decide +kernel)) (fun _ h9 => h9) rfl dX2_acceptSign_23 ?_
      refine lv_iconst (v := iI (1)) hx hb dX2_acceptSign_26 rfl ?_
      refine j_iadd hx hb dX2_acceptSign_27 ?_
      refine va_put (D := D) (ci := 1) (v := .int (iI (dl + 1))) (ty := .int) (C := RX1) (T := TX1) (N := 17) hx hb hts (by decide +kernel) tyX1 tyX1_ok nmX1 hown hK hP hD hS 3 rfl rfl 2 (by decide) (hts (.fieldLink RX2 128 "BreakSetter$Plan" "lines" "I") (by decide +kernel)) (fun _ h9 => h9) rfl (by decide +kernel) rfl rfl (Nat.le_of_ble_eq_true rfl) dX2_acceptSign_28 (fun H locs hP hD hS => ?_)
      have hP : va_P D vwCl (wRd q C fk tk ts te st ins po fr to ln ea ++ wTp q C len bs ++ wDr q C dp dw (dl + 1) dn ds dk a0 a1 a2 a3 a4 a5 a6 a7 a8 a9 aA) H := hP
      have hD : va_D A (wRd q C fk tk ts te st ins po fr to ln ea ++ wTp q C len bs ++ wDr q C dp dw (dl + 1) dn ds dk a0 a1 a2 a3 a4 a5 a6 a7 a8 a9 aA) := hD
      refine lv_aload_n hx hb dX2_acceptSign_31 rfl (lv_at hl 0 rfl) ?_
      refine lv_aload_n hx hb dX2_acceptSign_32 rfl (lv_at hl 0 rfl) ?_
      refine va_get (D := D) (ci := 2) (v := .int (iI (ins))) (C := RX2) (T := TX2) (N := 13) hx hb hts (by decide +kernel) hown hK hP 0 rfl rfl 7 (by decide) (hts (.fieldLink RX2 28 "BreakSetter$Reader" "inShift" "Z") (by decide +kernel)) (fun _ h9 => h9) rfl dX2_acceptSign_33 ?_
      refine j_if_eq (tgt := 43) hx hb dX2_acceptSign_36 rfl ⟨by omega, by omega⟩ (fun c36 => ?_) (fun c36 => ?_)
      · skip
        omega
      · skip
        refine lv_iconst (v := iI (2)) hx hb dX2_acceptSign_39 rfl ?_
        refine lv_goto (tgt := 44) hx hb dX2_acceptSign_40 rfl ?_
        refine va_put (D := D) (ci := 2) (v := .int (iI (2))) (ty := .int) (C := RX2) (T := TX2) (N := 13) hx hb hts (by decide +kernel) tyX2 tyX2_ok nmX2 hown hK hP hD hS 0 rfl rfl 6 (by decide) (hts (.fieldLink RX2 24 "BreakSetter$Reader" "state" "I") (by decide +kernel)) (fun _ h9 => h9) rfl (by decide +kernel) rfl rfl (Nat.le_of_ble_eq_true rfl) dX2_acceptSign_44 (fun H locs hP hD hS => ?_)
        have hP : va_P D vwCl (wRd q C fk tk ts te 2 ins po fr to ln ea ++ wTp q C len bs ++ wDr q C dp dw (dl + 1) dn ds dk a0 a1 a2 a3 a4 a5 a6 a7 a8 a9 aA) H := hP
        have hD : va_D A (wRd q C fk tk ts te 2 ins po fr to ln ea ++ wTp q C len bs ++ wDr q C dp dw (dl + 1) dn ds dk a0 a1 a2 a3 a4 a5 a6 a7 a8 a9 aA) := hD
        refine lv_iconst (v := iI (0)) hx hb dX2_acceptSign_47 rfl ?_
        exact hret H locs ls 48 _ (dl + 1, 2) dX2_acceptSign_48 ⟨0, rfl, Or.inr ⟨rfl, up g 2 (g 2 + 1), by rw [si_yes (by omega), if_pos hi, if_pos hi], DrP_3 (by rw [← c13]; exact hd) ⟨by omega, by omega⟩⟩⟩ hP hD hS
    · skip
      refine lv_iconst (v := iI (1)) hx hb dX2_acceptSign_16 rfl ?_
      exact hret s.heap [] ls 17 _ (dl, st) dX2_acceptSign_17 ⟨1, rfl, Or.inl ⟨by decide, si_no ⟨c5, c13⟩⟩⟩ hP hD hS
