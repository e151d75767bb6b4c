def CT (len st : Int) (r : Int32) (u : Int) : Prop := (600 < len ∧ r = iI 600 ∧ u = 1) ∨ (len ≤ 600 ∧ ¬ (st = 1 ∨ st = 2) ∧ r = iI len ∧ u = 1) ∨ (len ≤ 600 ∧ (st = 1 ∨ st = 2) ∧ r = iI (-1) ∧ u = 0)
theorem wd_k {q ins po fr to ln ea nds li w : Int} {g : Int → Int} {k : Int} (h : wdS w (q, ins, po, fr, to, ln, ea, nds, li, g) = .inl k) : k = 1 ∨ k = 3 := by
  by_cases c1 : q = 0 ∧ w = 1
  · obtain ⟨c1, c2⟩ := c1
    subst c1; subst c2
    have h : (Sum.inr (5, ins, po, fr, to, ln, ea, nds, li, g) : Int ⊕ PS) = .inl k := h
    cases h
  · by_cases c2 : q = 1 ∧ w = 2
    · obtain ⟨c2, c3⟩ := c2
      subst c2; subst c3
      have h : (if 10 ≤ nds then (Sum.inl 3 : Int ⊕ PS) else .inr (7, ins, po, fr, to, ln, ea, nds, li, g)) = .inl k := h
      by_cases x : 10 ≤ nds
      · rw [if_pos x] at h; exact Or.inr (Sum.inl.inj h).symm
      · rw [if_neg x] at h; cases h
    · by_cases c3 : (q = 1 ∨ q = 2) ∧ w = 3
      · obtain ⟨c3, c4⟩ := c3
        subst c4
        rw [wd_shift c3] at h
        by_cases x : 8 ≤ g 2
        · rw [if_pos x] at h; exact Or.inr (Sum.inl.inj h).symm
        · rw [if_neg x] at h; cases h
      · by_cases c4 : q = 3 ∧ w = 4
        · obtain ⟨c4, c5⟩ := c4
          subst c4; subst c5
          have h : (if 3 ≤ g (151 + 5 * g 2) then (Sum.inl 3 : Int ⊕ PS) else .inr (11, ins, po, fr, to, ln, ea, nds, li, g)) = .inl k := h
          by_cases x : 3 ≤ g (151 + 5 * g 2)
          · rw [if_pos x] at h; exact Or.inr (Sum.inl.inj h).symm
          · rw [if_neg x] at h; cases h
        · rw [wd_no c1 c2 c3 c4] at h; exact Or.inl (Sum.inl.inj h).symm
theorem stp_k {b : Int → Int} {n s : Int} {q ins po fr to ln ea nds li : Int} {g : Int → Int} {k : Int} (h : stp b n s (q, ins, po, fr, to, ln, ea, nds, li, g) = .inl k) : 1 ≤ k ∧ k ≤ 3 := by
  have kr := tkK_rng b n s
  rcases (show tkK b n s = 0 ∨ tkK b n s = 1 ∨ tkK b n s = 2 ∨ tkK b n s = 3 by omega) with e | e | e | e
  · rw [stp_0 e] at h; have := Sum.inl.inj h; omega
  · rw [stp_1 e] at h; have := wd_k h; omega
  · rw [stp_2 e] at h
    by_cases h5 : 5 ≤ q
    · by_cases x : nmb b s (tkE b n s) < loS (q, ins, po, fr, to, ln, ea, nds, li, g) ∨ hiS (q, ins, po, fr, to, ln, ea, nds, li, g) < nmb b s (tkE b n s)
      · rw [nu_2 h5 x] at h; have := Sum.inl.inj h; omega
      · rw [nu_3 h5 x] at h; cases h
    · rw [nu_no (by omega)] at h; have := Sum.inl.inj h; omega
  · rw [stp_3 e] at h
    by_cases x : ¬ q = 4 ∧ ¬ q = 3
    · rw [si_no x] at h; have := Sum.inl.inj h; omega
    · rw [si_yes x] at h; cases h
theorem DrP_start {g0 : Int → Int} (hg : ∀ j : Int, 0 ≤ j → j < 308 → g0 j = 0) {a0 a1 a2 a3 a4 a5 a6 a7 a8 a9 aA : Int → Int} : DrP g0 0 1 1 0 0 (flf a0 0 144) (flf a1 0 144) a2 a3 a4 a5 a6 a7 a8 a9 aA := by
  have z2 := hg 2 (by omega) (by omega)
  have z3 := hg 3 (by omega) (by omega)
  have p0 : prg 0 = 0 := prg_0 (by omega)
  unfold DrP
  rw [p0, z2, z3]
  refine ⟨fun z => absurd (Or.inl rfl) z, fun z => absurd (Or.inl rfl) z, by omega, fun c c0 c1 => ?_, fun c c0 c1 => ?_, fun s s0 s1 => by omega, fun k k0 k1 => by omega⟩
  · rw [hg (4 + c) (by omega) (by omega)]; exact if_pos ⟨c0, c1⟩
  · have e : flf a1 0 144 c = 0 := if_pos ⟨c0, c1⟩
    rw [e]
    unfold dtc onD
    rw [up_s]
    rfl
theorem ra_end {b : Int → Int} {n e : Int} {σ0 : PS} {q ins po fr to ln ea nds li : Int} {g : Int → Int} {r : Int32} {f dp dw ds dk : Int} {a0 a1 a2 a3 a4 a5 a6 a7 a8 a9 aA : Int → Int} (h : runT b n σ0 e = clS n (q, ins, po, fr, to, ln, ea, nds, li, g)) (hw : CT n q r f) (hn : 0 ≤ n ∧ n ≤ 640) (hd : DrP g q dp dw ds dk a0 a1 a2 a3 a4 a5 a6 a7 a8 a9 aA) (hM : MI (q, ins, po, fr, to, ln, ea, nds, li, g)) :
    (∃ k w : Int, runT b n σ0 e = .inl (k, w) ∧ r = iI w ∧ f = k ∧ 0 ≤ w ∧ w ≤ 640) ∨ (∃ (li' : Int) (g' : Int → Int), runT b n σ0 e = .inr (li', g') ∧ r = iI (-1) ∧ f = 0 ∧ li = li' ∧ DrP g' q dp dw ds dk a0 a1 a2 a3 a4 a5 a6 a7 a8 a9 aA ∧ (q = 1 ∨ q = 2) ∧ Wf g' ∧ ∀ k : Int, 0 ≤ k → k < 24 → g' (192 + 5 * k) = 0) := by
  have h : runT b n σ0 e = (if 600 < n then .inl (1, 600) else if ¬ q = 1 ∧ ¬ q = 2 then .inl (1, n) else .inr (li, g)) := h
  rcases hw with ⟨w1, w2, w3⟩ | ⟨w1, w2, w3, w4⟩ | ⟨w1, w2, w3, w4⟩
  · rw [if_pos w1] at h
    exact Or.inl ⟨1, 600, h, w2, w3, by omega, by omega⟩
  · rw [if_neg (by omega), if_pos ⟨fun z => w2 (Or.inl z), fun z => w2 (Or.inr z)⟩] at h
    exact Or.inl ⟨1, n, h, w3, w4, hn.1, hn.2⟩
  · rw [if_neg (by omega), if_neg (fun z => by omega)] at h
    exact Or.inr ⟨li, g, h, w3, w4, rfl, hd, w2, MI_Wf w2 hM, hM.2.2.2.2.2.2.2⟩
set_option maxHeartbeats 4000000 in
set_option maxRecDepth 100000 in
theorem c_X2_closeText {l : Launch} {D : va_G} {C : Nat → ClassId} {q : Nat → Nat} {fk tk ts te st ins po fr to ln ea len : Int} {bs : Int → Int} {dp dw dl dn ds dk : Int} {a0 a1 a2 a3 a4 a5 a6 a7 a8 a9 aA : Int → Int} (hlen : 0 ≤ len ∧ len ≤ 640) (hs0 : 0 ≤ st ∧ st ≤ 13) : CI (S := Int) l yX2_closeText wsX2_closeText 0 0 D C [.ref (q 3)] (wRd q C fk tk ts te st ins po fr to ln ea ++ wTp q C len bs ++ wDr q C dp dw dl dn ds dk a0 a1 a2 a3 a4 a5 a6 a7 a8 a9 aA) (fun u => wRd q C u tk ts te st ins po fr to ln ea ++ wTp q C len bs ++ wDr q C dp dw dl dn ds dk a0 a1 a2 a3 a4 a5 a6 a7 a8 a9 aA) (fun r u => CT len st r u) := by
  refine CI_of (cc := cX2_closeText) (maxL := 1) (by decide) rfl (Nat.le_of_ble_eq_true rfl) ?_
  intro p e s m below meth c A Q ls hx hb hml hown hts hK hNW hA hl hP hD hS hret
  have hl : lv_has ls 1 [(0, .ref (q 3))] := hl
  refine lv_aload_n hx hb dX2_closeText_0 rfl (lv_at hl 0 rfl) ?_
  refine lv_iconst (v := iI (1)) hx hb dX2_closeText_1 rfl ?_
  refine va_put (D := D) (ci := 2) (v := .int (iI (1))) (ty := .int) (C := RX2) (T := TX2) (N := 13) hx hb hts (by decide +kernel) tyX2 tyX2_ok nmX2 hown hK hP hD hS 0 rfl rfl 2 (by decide) (hts (.fieldLink RX2 50 "BreakSetter$Reader" "faultKind" "I") (by decide +kernel)) (fun _ h9 => h9) rfl (by decide +kernel) rfl rfl (Nat.le_of_ble_eq_true rfl) dX2_closeText_2 (fun H locs hP hD hS => ?_)
  have hP : va_P D vwCl (wRd q C 1 tk ts te st ins po fr to ln ea ++ wTp q C len bs ++ wDr q C dp dw dl dn ds dk a0 a1 a2 a3 a4 a5 a6 a7 a8 a9 aA) H := hP
  have hD : va_D A (wRd q C 1 tk ts te st ins po fr to ln ea ++ wTp q C len bs ++ wDr q C dp dw dl dn ds dk a0 a1 a2 a3 a4 a5 a6 a7 a8 a9 aA) := hD
  refine lv_aload_n hx hb dX2_closeText_5 rfl (lv_at hl 0 rfl) ?_
  refine va_get (D := D) (ci := 2) (v := .ref (q 1)) (C := RX2) (T := TX2) (N := 13) hx hb hts (by decide +kernel) hown hK hP 0 rfl rfl 0 (by decide) (hts (.fieldLink RX2 9 "BreakSetter$Reader" "tape" "LBreakSetter$Tape;") (by decide +kernel)) (fun _ h9 => h9) rfl dX2_closeText_6 ?_
  refine va_get (D := D) (ci := 4) (v := .int (iI (len))) (C := RX4) (T := TX4) (N := 2) hx hb hts (by decide +kernel) hown hK hP 1 rfl rfl 1 (by decide) (hts (.fieldLink RX2 56 "BreakSetter$Tape" "length" "I") (by decide +kernel)) (fun _ h9 => h9) rfl dX2_closeText_9 ?_
  refine lv_sipush (v := iI (600)) hx hb dX2_closeText_12 (by decide) ?_
  refine j_icmp_le (tgt := 22) hx hb dX2_closeText_15 rfl ⟨by omega, by omega⟩ ⟨by decide, by decide⟩ (fun c15 => ?_) (fun c15 => ?_)
  · skip
    refine lv_aload_n hx hb dX2_closeText_22 rfl (lv_at hl 0 rfl) ?_
    refine va_get (D := D) (ci := 2) (v := .int (iI (st))) (C := RX2) (T := TX2) (N := 13) hx hb hts (by decide +kernel) hown hK hP 0 rfl rfl 6 (by decide) (hts (.fieldLink RX2 24 "BreakSetter$Reader" "state" "I") (by decide +kernel)) (fun _ h9 => h9) rfl dX2_closeText_23 ?_
    refine lv_iconst (v := iI (1)) hx hb dX2_closeText_26 rfl ?_
    refine j_icmp_eq (tgt := 46) hx hb dX2_closeText_27 rfl ⟨by omega, by omega⟩ ⟨by decide, by decide⟩ (fun c27 => ?_) (fun c27 => ?_)
    · skip
      refine lv_aload_n hx hb dX2_closeText_46 rfl (lv_at hl 0 rfl) ?_
      refine lv_iconst (v := iI (0)) hx hb dX2_closeText_47 rfl ?_
      refine va_put (D := D) (ci := 2) (v := .int (iI (0))) (ty := .int) (C := RX2) (T := TX2) (N := 13) hx hb hts (by decide +kernel) tyX2 tyX2_ok nmX2 hown hK hP hD hS 0 rfl rfl 2 (by decide) (hts (.fieldLink RX2 50 "BreakSetter$Reader" "faultKind" "I") (by decide +kernel)) (fun _ h9 => h9) rfl (by decide +kernel) rfl rfl (Nat.le_of_ble_eq_true rfl) dX2_closeText_48 (fun H locs hP hD hS => ?_)
      have hP : va_P D vwCl (wRd q C 0 tk ts te st ins po fr to ln ea ++ wTp q C len bs ++ wDr q C dp dw dl dn ds dk a0 a1 a2 a3 a4 a5 a6 a7 a8 a9 aA) H := hP
      have hD : va_D A (wRd q C 0 tk ts te st ins po fr to ln ea ++ wTp q C len bs ++ wDr q C dp dw dl dn ds dk a0 a1 a2 a3 a4 a5 a6 a7 a8 a9 aA) := hD
      refine lv_iconst (v := iI (-1)) hx hb dX2_closeText_51 rfl ?_
      exact hret H locs ls 52 _ 0 dX2_closeText_52 (Or.inr (Or.inr ⟨by omega, by omega, rfl, rfl⟩)) hP hD hS
    · skip
      refine lv_aload_n hx hb dX2_closeText_30 rfl (lv_at hl 0 rfl) ?_
      refine va_get (D := D) (ci := 2) (v := .int (iI (st))) (C := RX2) (T := TX2) (N := 13) hx hb hts (by decide +kernel) hown hK hP 0 rfl rfl 6 (by decide) (hts (.fieldLink RX2 24 "BreakSetter$Reader" "state" "I") (by decide +kernel)) (fun _ h9 => h9) rfl dX2_closeText_31 ?_
      refine lv_iconst (v := iI (2)) hx hb dX2_closeText_34 rfl ?_
      refine j_icmp_eq (tgt := 46) hx hb dX2_closeText_35 rfl ⟨by omega, by omega⟩ ⟨by decide, by decide⟩ (fun c35 => ?_) (fun c35 => ?_)
      · skip
        refine lv_aload_n hx hb dX2_closeText_46 rfl (lv_at hl 0 rfl) ?_
        refine lv_iconst (v := iI (0)) hx hb dX2_closeText_47 rfl ?_
        refine va_put (D := D) (ci := 2) (v := .int (iI (0))) (ty := .int) (C := RX2) (T := TX2) (N := 13) hx hb hts (by decide +kernel) tyX2 tyX2_ok nmX2 hown hK hP hD hS 0 rfl rfl 2 (by decide) (hts (.fieldLink RX2 50 "BreakSetter$Reader" "faultKind" "I") (by decide +kernel)) (fun _ h9 => h9) rfl (by decide +kernel) rfl rfl (Nat.le_of_ble_eq_true rfl) dX2_closeText_48 (fun H locs hP hD hS => ?_)
        have hP : va_P D vwCl (wRd q C 0 tk ts te st ins po fr to ln ea ++ wTp q C len bs ++ wDr q C dp dw dl dn ds dk a0 a1 a2 a3 a4 a5 a6 a7 a8 a9 aA) H := hP
        have hD : va_D A (wRd q C 0 tk ts te st ins po fr to ln ea ++ wTp q C len bs ++ wDr q C dp dw dl dn ds dk a0 a1 a2 a3 a4 a5 a6 a7 a8 a9 aA) := hD
        refine lv_iconst (v := iI (-1)) hx hb dX2_closeText_51 rfl ?_
        exact hret H locs ls 52 _ 0 dX2_closeText_52 (Or.inr (Or.inr ⟨by omega, by omega, rfl, rfl⟩)) hP hD hS
      · skip
        refine lv_aload_n hx hb dX2_closeText_38 rfl (lv_at hl 0 rfl) ?_
        refine va_get (D := D) (ci := 2) (v := .ref (q 1)) (C := RX2) (T := TX2) (N := 13) hx hb hts (by decide +kernel) hown hK hP 0 rfl rfl 0 (by decide) (hts (.fieldLink RX2 9 "BreakSetter$Reader" "tape" "LBreakSetter$Tape;") (by decide +kernel)) (fun _ h9 => h9) rfl dX2_closeText_39 ?_
        refine va_get (D := D) (ci := 4) (v := .int (iI (len))) (C := RX4) (T := TX4) (N := 2) hx hb hts (by decide +kernel) hown hK hP 1 rfl rfl 1 (by decide) (hts (.fieldLink RX2 56 "BreakSetter$Tape" "length" "I") (by decide +kernel)) (fun _ h9 => h9) rfl dX2_closeText_42 ?_
        exact hret H locs ls 45 _ 1 dX2_closeText_45 (Or.inr (Or.inl ⟨by omega, by omega, rfl, rfl⟩)) hP hD hS
  · skip
    refine lv_sipush (v := iI (600)) hx hb dX2_closeText_18 (by decide) ?_
    exact hret H locs ls 21 _ 1 dX2_closeText_21 (Or.inl ⟨by omega, rfl, rfl⟩) hP hD hS

set_option maxHeartbeats 4000000 in
set_option maxRecDepth 100000 in
theorem c_X2_readAll {K V : Nat → Nat} {l : Launch} {D : va_G} {C : Nat → ClassId} {q : Nat → Nat} {fk tk ts te st ins po fr to ln ea len : Int} {bs : Int → Int} {dp dw dl dn ds dk : Int} {a0 a1 a2 a3 a4 a5 a6 a7 a8 a9 aA : Int → Int} (hlen : 0 ≤ len ∧ len ≤ 640) (hbs : ∀ k : Int, 0 ≤ k → k < 640 → 0 ≤ bs k ∧ bs k < 256) {g0 : Int → Int} (hg0 : ∀ j : Int, 0 ≤ j → j < 308 → g0 j = 0) : CIX K V (S := Int × Int × Int × Int × Int × Int × Int × Int × Int × Int × Int × Int × Int × Int × Int × Int × Int × (Int → Int) × (Int → Int) × (Int → Int) × (Int → Int) × (Int → Int) × (Int → Int) × (Int → Int) × (Int → Int) × (Int → Int) × (Int → Int) × (Int → Int)) l yX2_readAll wsX2_readAll 7 147 D C [.ref (q 3)] (wRd q C fk tk ts te st ins po fr to ln ea ++ wTp q C len bs ++ wDr q C dp dw dl dn ds dk a0 a1 a2 a3 a4 a5 a6 a7 a8 a9 aA) (fun u => wRd q C (u.1) (u.2.1) (u.2.2.1) (u.2.2.2.1) (u.2.2.2.2.1) (u.2.2.2.2.2.1) (u.2.2.2.2.2.2.1) (u.2.2.2.2.2.2.2.1) (u.2.2.2.2.2.2.2.2.1) (u.2.2.2.2.2.2.2.2.2.1) (u.2.2.2.2.2.2.2.2.2.2.1) ++ wTp q C len bs ++ wDr q C (u.2.2.2.2.2.2.2.2.2.2.2.1) (u.2.2.2.2.2.2.2.2.2.2.2.2.1) (u.2.2.2.2.2.2.2.2.2.2.2.2.2.1) (u.2.2.2.2.2.2.2.2.2.2.2.2.2.2.1) (u.2.2.2.2.2.2.2.2.2.2.2.2.2.2.2.1) (u.2.2.2.2.2.2.2.2.2.2.2.2.2.2.2.2.1) (u.2.2.2.2.2.2.2.2.2.2.2.2.2.2.2.2.2.1) (u.2.2.2.2.2.2.2.2.2.2.2.2.2.2.2.2.2.2.1) (u.2.2.2.2.2.2.2.2.2.2.2.2.2.2.2.2.2.2.2.1) (u.2.2.2.2.2.2.2.2.2.2.2.2.2.2.2.2.2.2.2.2.1) (u.2.2.2.2.2.2.2.2.2.2.2.2.2.2.2.2.2.2.2.2.2.1) (u.2.2.2.2.2.2.2.2.2.2.2.2.2.2.2.2.2.2.2.2.2.2.1) (u.2.2.2.2.2.2.2.2.2.2.2.2.2.2.2.2.2.2.2.2.2.2.2.1) (u.2.2.2.2.2.2.2.2.2.2.2.2.2.2.2.2.2.2.2.2.2.2.2.2.1) (u.2.2.2.2.2.2.2.2.2.2.2.2.2.2.2.2.2.2.2.2.2.2.2.2.2.1) (u.2.2.2.2.2.2.2.2.2.2.2.2.2.2.2.2.2.2.2.2.2.2.2.2.2.2.1) (u.2.2.2.2.2.2.2.2.2.2.2.2.2.2.2.2.2.2.2.2.2.2.2.2.2.2.2)) (fun r u => (∃ k w : Int, runT bs len (0, 0, po, fr, to, ln, ea, 0, 0, g0) 0 = .inl (k, w) ∧ r = iI w ∧ u.1 = k ∧ 0 ≤ w ∧ w ≤ 640) ∨ (∃ (li : Int) (g : Int → Int), runT bs len (0, 0, po, fr, to, ln, ea, 0, 0, g0) 0 = .inr (li, g) ∧ r = iI (-1) ∧ u.1 = 0 ∧ u.2.2.2.2.2.2.2.2.2.2.2.2.2.1 = li ∧ DrP g (u.2.2.2.2.1) (u.2.2.2.2.2.2.2.2.2.2.2.1) (u.2.2.2.2.2.2.2.2.2.2.2.2.1) (u.2.2.2.2.2.2.2.2.2.2.2.2.2.2.2.1) (u.2.2.2.2.2.2.2.2.2.2.2.2.2.2.2.2.1) (u.2.2.2.2.2.2.2.2.2.2.2.2.2.2.2.2.2.1) (u.2.2.2.2.2.2.2.2.2.2.2.2.2.2.2.2.2.2.1) (u.2.2.2.2.2.2.2.2.2.2.2.2.2.2.2.2.2.2.2.1) (u.2.2.2.2.2.2.2.2.2.2.2.2.2.2.2.2.2.2.2.2.1) (u.2.2.2.2.2.2.2.2.2.2.2.2.2.2.2.2.2.2.2.2.2.1) (u.2.2.2.2.2.2.2.2.2.2.2.2.2.2.2.2.2.2.2.2.2.2.1) (u.2.2.2.2.2.2.2.2.2.2.2.2.2.2.2.2.2.2.2.2.2.2.2.1) (u.2.2.2.2.2.2.2.2.2.2.2.2.2.2.2.2.2.2.2.2.2.2.2.2.1) (u.2.2.2.2.2.2.2.2.2.2.2.2.2.2.2.2.2.2.2.2.2.2.2.2.2.1) (u.2.2.2.2.2.2.2.2.2.2.2.2.2.2.2.2.2.2.2.2.2.2.2.2.2.2.1) (u.2.2.2.2.2.2.2.2.2.2.2.2.2.2.2.2.2.2.2.2.2.2.2.2.2.2.2) ∧ (u.2.2.2.2.1 = 1 ∨ u.2.2.2.2.1 = 2) ∧ Wf g ∧ ∀ k : Int, 0 ≤ k → k < 24 → g (192 + 5 * k) = 0)) := by
  refine CIX_of (cc := cX2_readAll) (maxL := 2) (by decide) rfl (Nat.le_of_ble_eq_true rfl) ?_
  intro p e s m below meth c A Q ls hx hb hml hown hts hK hNW hX hA hl hP hD hS hret
  have hl : lv_has ls 2 [(0, .ref (q 3))] := hl
  refine lv_aload_n hx hb dX2_readAll_0 rfl (lv_at hl 0 rfl) ?_
  refine va_get (D := D) (ci := 2) (v := .ref (q 4)) (C := RX2) (T := TX2) (N := 13) hx hb hts (by decide +kernel) hown hK hP 0 rfl rfl 1 (by decide) (hts (.fieldLink RX2 15 "BreakSetter$Reader" "draft" "LBreakSetter$Plan;") (by decide +kernel)) (fun _ h9 => h9) rfl dX2_readAll_1 ?_
  refine CV_callVp (As := []) (rest := []) (wn := fun _ => wRd q C fk tk ts te st ins po fr to ln ea ++ wTp q C len bs ++ wDr q C 1 1 0 0 0 0 (flf a0 0 144) (flf a1 0 144) a2 a3 a4 a5 a6 a7 a8 a9 aA) ⟨hx, hb, hml, hown, hts⟩ c_X1_clear (cwV 0 hts gX2_readAll_X1_clear rfl rfl rfl (by decide +kernel) ⟨Nat.le_of_ble_eq_true rfl, Nat.le_of_ble_eq_true rfl⟩) (q0 := 0) rfl rfl rfl hK hNW hP hD hS hA (List.perm_append_comm (l₁ := wRd q C fk tk ts te st ins po fr to ln ea ++ wTp q C len bs) (l₂ := wDr q C dp dw dl dn ds dk a0 a1 a2 a3 a4 a5 a6 a7 a8 a9 aA)) (fun _ => List.perm_append_comm) rfl hl.1 rfl (Nat.le_of_ble_eq_true rfl) dX2_readAll_4 ⟨Nat.zero_le _, Nat.zero_le _⟩ (fun u9 H locs hw9 hP hD hS => ?_)
  have hP : va_P D vwCl (wRd q C fk tk ts te st ins po fr to ln ea ++ wTp q C len bs ++ wDr q C 1 1 0 0 0 0 (flf a0 0 144) (flf a1 0 144) a2 a3 a4 a5 a6 a7 a8 a9 aA) H := hP
  have hD : va_D A (wRd q C fk tk ts te st ins po fr to ln ea ++ wTp q C len bs ++ wDr q C 1 1 0 0 0 0 (flf a0 0 144) (flf a1 0 144) a2 a3 a4 a5 a6 a7 a8 a9 aA) := hD
  refine lv_aload_n hx hb dX2_readAll_7 rfl (lv_at hl 0 rfl) ?_
  refine lv_iconst (v := iI (0)) hx hb dX2_readAll_8 rfl ?_
  refine va_put (D := D) (ci := 2) (v := .int (iI (0))) (ty := .int) (C := RX2) (T := TX2) (N := 13) hx hb hts (by decide +kernel) tyX2 tyX2_ok nmX2 hown hK hP hD hS 0 rfl rfl 6 (by decide) (hts (.fieldLink RX2 24 "BreakSetter$Reader" "state" "I") (by decide +kernel)) (fun _ h9 => h9) rfl (by decide +kernel) rfl rfl (Nat.le_of_ble_eq_true rfl) dX2_readAll_9 (fun H locs hP hD hS => ?_)
  have hP : va_P D vwCl (wRd q C fk tk ts te 0 ins po fr to ln ea ++ wTp q C len bs ++ wDr q C 1 1 0 0 0 0 (flf a0 0 144) (flf a1 0 144) a2 a3 a4 a5 a6 a7 a8 a9 aA) H := hP
  have hD : va_D A (wRd q C fk tk ts te 0 ins po fr to ln ea ++ wTp q C len bs ++ wDr q C 1 1 0 0 0 0 (flf a0 0 144) (flf a1 0 144) a2 a3 a4 a5 a6 a7 a8 a9 aA) := hD
  refine lv_aload_n hx hb dX2_readAll_12 rfl (lv_at hl 0 rfl) ?_
  refine lv_iconst (v := iI (0)) hx hb dX2_readAll_13 rfl ?_
  refine va_put (D := D) (ci := 2) (v := .int (iI (0))) (ty := .boolean) (C := RX2) (T := TX2) (N := 13) hx hb hts (by decide +kernel) tyX2 tyX2_ok nmX2 hown hK hP hD hS 0 rfl rfl 7 (by decide) (hts (.fieldLink RX2 28 "BreakSetter$Reader" "inShift" "Z") (by decide +kernel)) (fun _ h9 => h9) rfl (by decide +kernel) rfl rfl (Nat.le_of_ble_eq_true rfl) dX2_readAll_14 (fun H locs hP hD hS => ?_)
  have hP : va_P D vwCl (wRd q C fk tk ts te 0 0 po fr to ln ea ++ wTp q C len bs ++ wDr q C 1 1 0 0 0 0 (flf a0 0 144) (flf a1 0 144) a2 a3 a4 a5 a6 a7 a8 a9 aA) H := hP
  have hD : va_D A (wRd q C fk tk ts te 0 0 po fr to ln ea ++ wTp q C len bs ++ wDr q C 1 1 0 0 0 0 (flf a0 0 144) (flf a1 0 144) a2 a3 a4 a5 a6 a7 a8 a9 aA) := hD
  refine lv_aload_n hx hb dX2_readAll_17 rfl (lv_at hl 0 rfl) ?_
  refine lv_iconst (v := iI (0)) hx hb dX2_readAll_18 rfl ?_
  refine va_put (D := D) (ci := 2) (v := .int (iI (0))) (ty := .int) (C := RX2) (T := TX2) (N := 13) hx hb hts (by decide +kernel) tyX2 tyX2_ok nmX2 hown hK hP hD hS 0 rfl rfl 5 (by decide) (hts (.fieldLink RX2 32 "BreakSetter$Reader" "tokenEnd" "I") (by decide +kernel)) (fun _ h9 => h9) rfl (by decide +kernel) rfl rfl (Nat.le_of_ble_eq_true rfl) dX2_readAll_19 (fun H locs hP hD hS => ?_)
  have hP : va_P D vwCl (wRd q C fk tk ts 0 0 0 po fr to ln ea ++ wTp q C len bs ++ wDr q C 1 1 0 0 0 0 (flf a0 0 144) (flf a1 0 144) a2 a3 a4 a5 a6 a7 a8 a9 aA) H := hP
  have hD : va_D A (wRd q C fk tk ts 0 0 0 po fr to ln ea ++ wTp q C len bs ++ wDr q C 1 1 0 0 0 0 (flf a0 0 144) (flf a1 0 144) a2 a3 a4 a5 a6 a7 a8 a9 aA) := hD
  refine lv_iconst (v := iI (0)) hx hb dX2_readAll_22 rfl ?_
  refine lv_istore_n (lv' := [(1, .int (iI (0))), (0, .ref (q 3))]) hx hb dX2_readAll_23 rfl hl (by decide) rfl (fun ls hl => ?_)
  have L24 : ∀ (n : Nat) (nt : Int) (vfk : Int) (vtk : Int) (vts : Int) (vte : Int) (vst : Int) (vins : Int) (vpo : Int) (vfr : Int) (vto : Int) (vln : Int) (vea : Int) (vdp : Int) (vdw : Int) (vdl : Int) (vdn : Int) (vds : Int) (vdk : Int) (va0 : Int → Int) (va1 : Int → Int) (va2 : Int → Int) (va3 : Int → Int) (va4 : Int → Int) (va5 : Int → Int) (va6 : Int → Int) (va7 : Int → Int) (va8 : Int → Int) (va9 : Int → Int) (vaA : Int → Int) (g1 : Int → Int) (ls : Array Slot) (H : Heap) (locs : List Loc), (0 ≤ nt ∧ nt ≤ vte ∧ vte ≤ len) → (MI (vst, vins, vpo, vfr, vto, vln, vea, vdn, vdl, g1)) → (DrP g1 vst vdp vdw vds vdk va0 va1 va2 va3 va4 va5 va6 va7 va8 va9 vaA) → (runT bs len (0, 0, po, fr, to, ln, ea, 0, 0, g0) 0 = runT bs len (vst, vins, vpo, vfr, vto, vln, vea, vdn, vdl, g1) vte) → ((len - vte).toNat < n) → (lv_has ls 2 [(1, .int (iI (nt))), (0, .ref (q 3))]) → (va_P D vwCl (wRd q C vfk vtk vts vte vst vins vpo vfr vto vln vea ++ wTp q C len bs ++ wDr q C vdp vdw vdl vdn vds vdk va0 va1 va2 va3 va4 va5 va6 va7 va8 va9 vaA) H) → (va_D A (wRd q C vfk vtk vts vte vst vins vpo vfr vto vln vea ++ wTp q C len bs ++ wDr q C vdp vdw vdl vdn vds vdk va0 va1 va2 va3 va4 va5 va6 va7 va8 va9 vaA)) → (va_S A s.heap H locs) → W p l e (rmN 7 147) s m ([.ref (q 3)] : List Value).toArray below meth c H locs 0 0 Q (F0 m 24 ls []) := by
    intro n
    induction n with
    | zero => intro nt vfk vtk vts vte vst vins vpo vfr vto vln vea vdp vdw vdl vdn vds vdk va0 va1 va2 va3 va4 va5 va6 va7 va8 va9 vaA g1 ls H locs t1 M1 D1 R1 hn; exact absurd hn (Nat.not_lt_zero _)
    | succ n ih24 =>
      intro nt vfk vtk vts vte vst vins vpo vfr vto vln vea vdp vdw vdl vdn vds vdk va0 va1 va2 va3 va4 va5 va6 va7 va8 va9 vaA g1 ls H locs t1 M1 D1 R1 hn hl hP hD hS
      have hn24 := hn
      have hs9 := M1.1.1
      refine lv_iload_n hx hb dX2_readAll_24 rfl (lv_at hl 0 rfl) ?_
      refine lv_sipush (v := iI (640)) hx hb dX2_readAll_25 (by decide) ?_
      refine j_icmp_gt (tgt := 82) hx hb dX2_readAll_28 rfl ⟨by omega, by omega⟩ ⟨by decide, by decide⟩ (fun c28 => ?_) (fun c28 => ?_)
      · skip
        exact absurd c28 (by omega)
      · skip
        refine lv_aload_n hx hb dX2_readAll_31 rfl (lv_at hl 1 rfl) ?_
        refine CV_callV0 (As := []) (rest := []) ⟨hx, hb, hml, hown, hts⟩ (c_X2_findToken hlen hbs ⟨by omega, by omega⟩) (cwV 0 hts gX2_readAll_X2_findToken rfl rfl rfl (by decide +kernel) ⟨Nat.le_of_ble_eq_true rfl, Nat.le_of_ble_eq_true rfl⟩) (q0 := 0) rfl rfl rfl hK hNW hP hD hS hA rfl hl.1 rfl (Nat.le_of_ble_eq_true rfl) dX2_readAll_32 ⟨Nat.zero_le _, Nat.zero_le _⟩ (fun ⟨tk9, ts9, te9⟩ H locs hw9 hP hD hS => ?_)
        have hP : va_P D vwCl (wRd q C vfk tk9 ts9 te9 vst vins vpo vfr vto vln vea ++ wTp q C len bs ++ wDr q C vdp vdw vdl vdn vds vdk va0 va1 va2 va3 va4 va5 va6 va7 va8 va9 vaA) H := hP
        have hD : va_D A (wRd q C vfk tk9 ts9 te9 vst vins vpo vfr vto vln vea ++ wTp q C len bs ++ wDr q C vdp vdw vdl vdn vds vdk va0 va1 va2 va3 va4 va5 va6 va7 va8 va9 vaA) := hD
        have hf : ts9 = tkS bs len vte ∧ ((len ≤ tkS bs len vte ∧ tk9 = 4) ∨ (tkS bs len vte < len ∧ tk9 = tkK bs len (tkS bs len vte) ∧ te9 = tkE bs len (tkS bs len vte))) := hw9
        have kr := tkK_rng bs len (tkS bs len vte)
        have sr := skp_r (P := isBl) (b := bs) (n := len) (i := vte) (by omega)
        have sr1 : vte ≤ tkS bs len vte ∧ tkS bs len vte ≤ len := ⟨sr.1, sr.2.1⟩
        refine lv_aload_n hx hb dX2_readAll_35 rfl (lv_at hl 1 rfl) ?_
        refine va_get (D := D) (ci := 2) (v := .int (iI (tk9))) (C := RX2) (T := TX2) (N := 13) hx hb hts (by decide +kernel) hown hK hP 0 rfl rfl 3 (by decide) (hts (.fieldLink RX2 40 "BreakSetter$Reader" "tokenKind" "I") (by decide +kernel)) (fun _ h9 => h9) rfl dX2_readAll_36 ?_
        refine lv_iconst (v := iI (4)) hx hb dX2_readAll_39 rfl ?_
        refine j_icmp_eq (tgt := 82) hx hb dX2_readAll_40 rfl ⟨by omega, by omega⟩ ⟨by decide, by decide⟩ (fun c40 => ?_) (fun c40 => ?_)
        · skip
          refine lv_aload_n hx hb dX2_readAll_82 rfl (lv_at hl 1 rfl) ?_
          refine CI_callV0 (As := []) (rest := []) ⟨hx, hb, hml, hown, hts⟩ (c_X2_closeText hlen hs9) (cwV 0 hts gX2_readAll_X2_closeText rfl rfl rfl (by decide +kernel) ⟨Nat.le_of_ble_eq_true rfl, Nat.le_of_ble_eq_true rfl⟩) (q0 := 0) rfl rfl rfl hK hNW hP hD hS hA rfl hl.1 rfl (Nat.le_of_ble_eq_true rfl) dX2_readAll_83 ⟨Nat.zero_le _, Nat.zero_le _⟩ (fun r f9 H locs hw9 hP hD hS => ?_)
          have hP : va_P D vwCl (wRd q C f9 tk9 ts9 te9 vst vins vpo vfr vto vln vea ++ wTp q C len bs ++ wDr q C vdp vdw vdl vdn vds vdk va0 va1 va2 va3 va4 va5 va6 va7 va8 va9 vaA) H := hP
          have hD : va_D A (wRd q C f9 tk9 ts9 te9 vst vins vpo vfr vto vln vea ++ wTp q C len bs ++ wDr q C vdp vdw vdl vdn vds vdk va0 va1 va2 va3 va4 va5 va6 va7 va8 va9 vaA) := hD
          exact hret H locs ls 86 _ (f9, tk9, ts9, te9, vst, vins, vpo, vfr, vto, vln, vea, vdp, vdw, vdl, vdn, vds, vdk, va0, va1, va2, va3, va4, va5, va6, va7, va8, va9, vaA) dX2_readAll_86 (ra_end (R1.trans (run_e (by omega))) hw9 hlen D1 M1) hP hD hS
        · skip
          refine lv_aload_n hx hb dX2_readAll_43 rfl (lv_at hl 1 rfl) ?_
          refine va_get (D := D) (ci := 2) (v := .int (iI (ts9))) (C := RX2) (T := TX2) (N := 13) hx hb hts (by decide +kernel) hown hK hP 0 rfl rfl 4 (by decide) (hts (.fieldLink RX2 43 "BreakSetter$Reader" "tokenStart" "I") (by decide +kernel)) (fun _ h9 => h9) rfl dX2_readAll_44 ?_
          refine lv_sipush (v := iI (600)) hx hb dX2_readAll_47 (by decide) ?_
          refine j_icmp_lt (tgt := 56) hx hb dX2_readAll_50 rfl ⟨by omega, by omega⟩ ⟨by decide, by decide⟩ (fun c50 => ?_) (fun c50 => ?_)
          · skip
            have tl : tkS bs len vte < len ∧ tk9 = tkK bs len (tkS bs len vte) ∧ te9 = tkE bs len (tkS bs len vte) := hf.2.resolve_left (fun z => c40 z.2)
            refine lv_aload_n hx hb dX2_readAll_56 rfl (lv_at hl 1 rfl) ?_
            refine lv_aload_n hx hb dX2_readAll_57 rfl (lv_at hl 1 rfl) ?_
            refine CIX_callV0 (As := []) (rest := [.ref (q 3)]) ⟨hx, hb, hml, hown, hts⟩ (c_X2_acceptToken hlen hbs M1 D1 (by rw [hf.1]; exact tl.2.1) (by rw [hf.1]; exact tl.2.2) ⟨by omega, by omega⟩) (cwV 0 hts gX2_readAll_X2_acceptToken rfl rfl rfl (by decide +kernel) ⟨Nat.le_of_ble_eq_true rfl, Nat.le_of_ble_eq_true rfl⟩) (q0 := 0) rfl rfl rfl hK hNW hX hP hD hS hA rfl hl.1 rfl (Nat.le_of_ble_eq_true rfl) dX2_readAll_58 ⟨Nat.zero_le _, Nat.zero_le _⟩ (fun r ⟨wst, wins, wpo, wfr, wto, wln, wea, wdp, wdw, wdl, wdn, wds, wdk, wa0, wa1, wa2, wa3, wa4, wa5, wa6, wa7, wa8, wa9, waA⟩ H locs hw9 hP hD hS => ?_)
            obtain ⟨z9, hr9, hw9⟩ := hw9
            subst hr9
            have hz9 : (¬ z9 = 0 ∧ stp bs len ts9 (vst, vins, vpo, vfr, vto, vln, vea, vdn, vdl, g1) = .inl z9) ∨ (z9 = 0 ∧ ∃ g' : Int → Int, stp bs len ts9 (vst, vins, vpo, vfr, vto, vln, vea, vdn, vdl, g1) = .inr (wst, wins, wpo, wfr, wto, wln, wea, wdn, wdl, g') ∧ DrP g' wst wdp wdw wds wdk wa0 wa1 wa2 wa3 wa4 wa5 wa6 wa7 wa8 wa9 waA) := hw9
            rw [hf.1] at hz9
            have zr : 0 ≤ z9 ∧ z9 ≤ 3 := hz9.elim (fun z => by have := stp_k z.2; omega) (fun z => by have := z.1; omega)
            have hP : va_P D vwCl (wRd q C vfk tk9 ts9 te9 wst wins wpo wfr wto wln wea ++ wTp q C len bs ++ wDr q C wdp wdw wdl wdn wds wdk wa0 wa1 wa2 wa3 wa4 wa5 wa6 wa7 wa8 wa9 waA) H := hP
            have hD : va_D A (wRd q C vfk tk9 ts9 te9 wst wins wpo wfr wto wln wea ++ wTp q C len bs ++ wDr q C wdp wdw wdl wdn wds wdk wa0 wa1 wa2 wa3 wa4 wa5 wa6 wa7 wa8 wa9 waA) := hD
            refine va_put (D := D) (ci := 2) (v := .int (iI (z9))) (ty := .int) (C := RX2) (T := TX2) (N := 13) hx hb hts (by decide +kernel) tyX2 tyX2_ok nmX2 hown hK hP hD hS 0 rfl rfl 2 (by decide) (hts (.fieldLink RX2 50 "BreakSetter$Reader" "faultKind" "I") (by decide +kernel)) (fun _ h9 => h9) rfl (by decide +kernel) rfl rfl (Nat.le_of_ble_eq_true rfl) dX2_readAll_61 (fun H locs hP hD hS => ?_)
            have hP : va_P D vwCl (wRd q C z9 tk9 ts9 te9 wst wins wpo wfr wto wln wea ++ wTp q C len bs ++ wDr q C wdp wdw wdl wdn wds wdk wa0 wa1 wa2 wa3 wa4 wa5 wa6 wa7 wa8 wa9 waA) H := hP
            have hD : va_D A (wRd q C z9 tk9 ts9 te9 wst wins wpo wfr wto wln wea ++ wTp q C len bs ++ wDr q C wdp wdw wdl wdn wds wdk wa0 wa1 wa2 wa3 wa4 wa5 wa6 wa7 wa8 wa9 waA) := hD
            refine lv_aload_n hx hb dX2_readAll_64 rfl (lv_at hl 1 rfl) ?_
            refine va_get (D := D) (ci := 2) (v := .int (iI (z9))) (C := RX2) (T := TX2) (N := 13) hx hb hts (by decide +kernel) hown hK hP 0 rfl rfl 2 (by decide) (hts (.fieldLink RX2 50 "BreakSetter$Reader" "faultKind" "I") (by decide +kernel)) (fun _ h9 => h9) rfl dX2_readAll_65 ?_
            refine j_if_eq (tgt := 76) hx hb dX2_readAll_68 rfl ⟨by omega, by omega⟩ (fun c68 => ?_) (fun c68 => ?_)
            · skip
              obtain ⟨g9, hs8, hd8⟩ := (hz9.resolve_left (fun z => z.1 c68)).2
              refine j_iinc (k := 0) (lv' := [(1, .int (iI (nt + 1))), (0, .ref (q 3))]) hx hb dX2_readAll_76 hl rfl (by decide) rfl (fun ls hl => ?_)
              refine lv_goto (tgt := 24) hx hb dX2_readAll_79 rfl ?_
              have tE := tkE_r (b := bs) (n := len) (s := tkS bs len vte) tl.1
              exact ih24 (nt + 1) z9 tk9 ts9 te9 wst wins wpo wfr wto wln wea wdp wdw wdl wdn wds wdk wa0 wa1 wa2 wa3 wa4 wa5 wa6 wa7 wa8 wa9 waA g9 ls H locs (by omega) (MI_stp M1 hs8) hd8 (by rw [tl.2.2]; exact R1.trans (run_go (by omega) (by omega) hs8)) (by have := tl.2.2; omega) (lv_sub hl [0, 1] rfl) hP hD hS
            · skip
              refine lv_aload_n hx hb dX2_readAll_71 rfl (lv_at hl 1 rfl) ?_
              refine va_get (D := D) (ci := 2) (v := .int (iI (ts9))) (C := RX2) (T := TX2) (N := 13) hx hb hts (by decide +kernel) hown hK hP 0 rfl rfl 4 (by decide) (hts (.fieldLink RX2 43 "BreakSetter$Reader" "tokenStart" "I") (by decide +kernel)) (fun _ h9 => h9) rfl dX2_readAll_72 ?_
              exact hret H locs ls 75 _ (z9, tk9, ts9, te9, wst, wins, wpo, wfr, wto, wln, wea, wdp, wdw, wdl, wdn, wds, wdk, wa0, wa1, wa2, wa3, wa4, wa5, wa6, wa7, wa8, wa9, waA) dX2_readAll_75 (Or.inl ⟨z9, ts9, by rw [hf.1]; exact R1.trans (run_bad (by omega) (by omega) (hz9.resolve_right (fun z => c68 z.1)).2), rfl, rfl, by omega, by omega⟩) hP hD hS
          · skip
            refine lv_goto (tgt := 82) hx hb dX2_readAll_53 rfl ?_
            refine lv_aload_n hx hb dX2_readAll_82 rfl (lv_at hl 1 rfl) ?_
            refine CI_callV0 (As := []) (rest := []) ⟨hx, hb, hml, hown, hts⟩ (c_X2_closeText hlen hs9) (cwV 0 hts gX2_readAll_X2_closeText rfl rfl rfl (by decide +kernel) ⟨Nat.le_of_ble_eq_true rfl, Nat.le_of_ble_eq_true rfl⟩) (q0 := 0) rfl rfl rfl hK hNW hP hD hS hA rfl hl.1 rfl (Nat.le_of_ble_eq_true rfl) dX2_readAll_83 ⟨Nat.zero_le _, Nat.zero_le _⟩ (fun r f9 H locs hw9 hP hD hS => ?_)
            have hP : va_P D vwCl (wRd q C f9 tk9 ts9 te9 vst vins vpo vfr vto vln vea ++ wTp q C len bs ++ wDr q C vdp vdw vdl vdn vds vdk va0 va1 va2 va3 va4 va5 va6 va7 va8 va9 vaA) H := hP
            have hD : va_D A (wRd q C f9 tk9 ts9 te9 vst vins vpo vfr vto vln vea ++ wTp q C len bs ++ wDr q C vdp vdw vdl vdn vds vdk va0 va1 va2 va3 va4 va5 va6 va7 va8 va9 vaA) := hD
            exact hret H locs ls 86 _ (f9, tk9, ts9, te9, vst, vins, vpo, vfr, vto, vln, vea, vdp, vdw, vdl, vdn, vds, vdk, va0, va1, va2, va3, va4, va5, va6, va7, va8, va9, vaA) dX2_readAll_86 (ra_end (R1.trans (run_e (by omega))) hw9 hlen D1 M1) hP hD hS
  exact L24 _ 0 fk tk ts 0 0 0 po fr to ln ea 1 1 0 0 0 0 (flf a0 0 144) (flf a1 0 144) a2 a3 a4 a5 a6 a7 a8 a9 aA g0 ls H locs (by omega) (MI_start hg0) (DrP_start hg0) rfl (Nat.lt_succ_self _) (lv_sub hl [0, 1] rfl) hP hD hS
