section MK
variable {q ins po fr to ln ea nds li m w dp : Int} {g : Int → Int}
theorem MI_g2 (h : MI (q, 1, po, fr, to, ln, ea, nds, li, g)) (hq : q = 7 ∨ q = 8 ∨ q = 9) : g 2 < 8 := by
  obtain ⟨⟨m1, m2, m3, m4, m5, m6, m7, m8, m9, m10, m11, -⟩, hb, hs⟩ := h
  exact m11 hq rfl
theorem MI_9f (h : MI (9, 1, po, fr, to, ln, ea, nds, li, g)) : g (148 + 5 * g 2) = po ∧ g (149 + 5 * g 2) = fr ∧ g (151 + 5 * g 2) = 0 ∧ (0 ≤ po ∧ po < 3) ∧ (0 ≤ fr ∧ fr < 48) ∧ g 2 < 8 := by
  obtain ⟨⟨m1, m2, m3, m4, m5, m6, m7, m8, m9, m10, m11, m12, m13, m14, m15, m16, -⟩, hb, hs⟩ := h
  have z2 := m11 (by omega) rfl
  have z3 := m12 (by omega)
  have z4 := m13 (by omega)
  have z0 := m6 (by omega)
  have z5 := m15 (by omega) rfl
  have z6 := m16 rfl rfl
  clear m5 m6 m7 m8 m9 m10 m11 m12 m13 m14 m15 m16
  rw [prg_0 (by omega), Int.add_zero] at hs
  exact ⟨z5, z6, hs.2.2.1 (g 2) (by omega) z2, by omega, z4, z2⟩
theorem MI_10f (h : MI (10, ins, po, fr, to, ln, ea, nds, li, g)) : (0 ≤ po ∧ po < 3) ∧ (0 ≤ fr ∧ fr ≤ to ∧ to < 48) := by
  obtain ⟨⟨m1, m2, m3, m4, m5, m6, m7, m8, m9, m10, m11, m12, m13, m14, -⟩, hb, hs⟩ := h
  have z3 := m12 (by omega)
  have z4 := m13 (by omega)
  have z0 := m6 (by omega)
  have z5 := m14 rfl
  clear m5 m6 m7 m8 m9 m10 m11 m12 m13 m14
  omega
theorem MI_lo (h : MI (q, ins, po, fr, to, ln, ea, nds, li, g)) (h5 : 5 ≤ q) : (0 ≤ loS (q, ins, po, fr, to, ln, ea, nds, li, g) ∧ loS (q, ins, po, fr, to, ln, ea, nds, li, g) ≤ 47) ∧ (-10 ≤ hiS (q, ins, po, fr, to, ln, ea, nds, li, g) ∧ hiS (q, ins, po, fr, to, ln, ea, nds, li, g) ≤ 100) := by
  have hq := h.1.1
  rcases (show q = 5 ∨ q = 6 ∨ q = 7 ∨ q = 8 ∨ q = 9 ∨ q = 10 ∨ q = 11 ∨ q = 12 ∨ q = 13 by omega) with e | e | e | e | e | e | e | e | e
  · subst e; exact ⟨⟨by show (0 : Int) ≤ 1; omega, by show (1 : Int) ≤ 47; omega⟩, by show (-10 : Int) ≤ 3; omega, by show (3 : Int) ≤ 100; omega⟩
  · subst e; exact ⟨⟨by show (0 : Int) ≤ 1; omega, by show (1 : Int) ≤ 47; omega⟩, by show (-10 : Int) ≤ 4; omega, by show (4 : Int) ≤ 100; omega⟩
  · subst e
    have z := h.1.2.2.2.2.2.1 (by omega)
    exact ⟨⟨by show (0 : Int) ≤ 0; omega, by show (0 : Int) ≤ 47; omega⟩, by show (-10 : Int) ≤ g 0 - 1; omega, by show g 0 - 1 ≤ 100; omega⟩
  · subst e; exact ⟨⟨by show (0 : Int) ≤ 0; omega, by show (0 : Int) ≤ 47; omega⟩, by show (-10 : Int) ≤ 47; omega, by show (47 : Int) ≤ 100; omega⟩
  · subst e
    have z := h.1.2.2.2.2.2.2.2.2.2.2.2.2.1 (by omega)
    exact ⟨⟨by show (0 : Int) ≤ fr; omega, by show fr ≤ 47; omega⟩, by show (-10 : Int) ≤ 47; omega, by show (47 : Int) ≤ 100; omega⟩
  · subst e; exact ⟨⟨by show (0 : Int) ≤ 0; omega, by show (0 : Int) ≤ 47; omega⟩, by show (-10 : Int) ≤ 9; omega, by show (9 : Int) ≤ 100; omega⟩
  · subst e; exact ⟨⟨by show (0 : Int) ≤ 1; omega, by show (1 : Int) ≤ 47; omega⟩, by show (-10 : Int) ≤ 4; omega, by show (4 : Int) ≤ 100; omega⟩
  · subst e
    have z := MI_in h (Or.inr (by omega))
    exact ⟨⟨by show (0 : Int) ≤ fr; omega, by show fr ≤ 47; omega⟩, by show (-10 : Int) ≤ to; omega, by show to ≤ 100; omega⟩
  · subst e
    have z := MI_in h (Or.inr (by omega))
    have y := MI_in13 h
    exact ⟨⟨by show (0 : Int) ≤ ea; omega, by show ea ≤ 47; omega⟩, by show (-10 : Int) ≤ to - ln + 1; omega, by show to - ln + 1 ≤ 100; omega⟩
theorem hiR_S (h : q = 7 → dp = g 0) : hiR q to ln dp = hiS (q, ins, po, fr, to, ln, ea, nds, li, g) := by
  by_cases e : q = 7
  · subst e
    show dp - 1 = g 0 - 1
    rw [h rfl]
  · show hiR q to ln dp = (if q = 5 then 3 else if q = 6 then 4 else if q = 7 then g 0 - 1 else if q = 10 then 9 else if q = 11 then 4 else if q = 12 then to else if q = 13 then to - ln + 1 else 47)
    unfold hiR
    rw [if_neg e, if_neg e]
theorem nu_2 (h : 5 ≤ q) (h2 : w < loS (q, ins, po, fr, to, ln, ea, nds, li, g) ∨ hiS (q, ins, po, fr, to, ln, ea, nds, li, g) < w) : nuS w (q, ins, po, fr, to, ln, ea, nds, li, g) = .inl 2 := by
  show (if q < 5 then _ else if w < loS (q, ins, po, fr, to, ln, ea, nds, li, g) ∨ hiS (q, ins, po, fr, to, ln, ea, nds, li, g) < w then _ else _) = _
  rw [if_neg (by omega), if_pos h2]
theorem nu_3 (h : 5 ≤ q) (h2 : ¬ (w < loS (q, ins, po, fr, to, ln, ea, nds, li, g) ∨ hiS (q, ins, po, fr, to, ln, ea, nds, li, g) < w)) : nuS w (q, ins, po, fr, to, ln, ea, nds, li, g) = .inr (kpS w (q, ins, po, fr, to, ln, ea, nds, li, g)) := by
  show (if q < 5 then _ else if w < loS (q, ins, po, fr, to, ln, ea, nds, li, g) ∨ hiS (q, ins, po, fr, to, ln, ea, nds, li, g) < w then _ else _) = _
  rw [if_neg (by omega), if_neg h2]
theorem MI_kp (h : MI (q, ins, po, fr, to, ln, ea, nds, li, g)) (h5 : 5 ≤ q) (hl : loS (q, ins, po, fr, to, ln, ea, nds, li, g) ≤ m) (hh : m ≤ hiS (q, ins, po, fr, to, ln, ea, nds, li, g)) : MI (kpS m (q, ins, po, fr, to, ln, ea, nds, li, g)) := by
  have hq := h.1.1
  have hi := h.1.2.1
  rcases (show q = 5 ∨ q = 6 ∨ q = 7 ∨ q = 8 ∨ q = 9 ∨ q = 10 ∨ q = 11 ∨ q = 12 ∨ q = 13 by omega) with e | e | e | e | e | e | e | e | e
  · subst e; exact MI_5 h hl hh
  · subst e; exact MI_6 h hl hh
  · subst e
    rcases hi with e | e
    · subst e; exact MI_7o h hl hh
    · subst e; exact MI_7i h hl hh
  · subst e
    rcases hi with e | e
    · subst e; exact MI_8o h hl hh
    · subst e; exact MI_8i h hl hh
  · subst e
    rcases hi with e | e
    · subst e; exact MI_9o h hl hh
    · subst e; exact MI_9i h hl hh
  · subst e; exact MI_10 h hl hh
  · subst e; exact MI_11 h hl hh
  · subst e; exact MI_12 h hl hh
  · subst e; exact (MI_13 h hl hh).1
theorem MI_wd (h : MI (q, ins, po, fr, to, ln, ea, nds, li, g)) {τ : PS} (hs : wdS w (q, ins, po, fr, to, ln, ea, nds, li, g) = .inr τ) : MI τ := by
  by_cases c1 : q = 0 ∧ w = 1
  · obtain ⟨c1, c2⟩ := c1
    subst c1; subst c2
    have hs : (Sum.inr (5, ins, po, fr, to, ln, ea, nds, li, g) : Int ⊕ PS) = .inr τ := hs
    rw [← Sum.inr.inj hs]
    exact (MI_0 h).2
  · by_cases c2 : q = 1 ∧ w = 2
    · obtain ⟨c2, c3⟩ := c2
      subst c2; subst c3
      by_cases x : 10 ≤ nds
      · have hs : (if 10 ≤ nds then (Sum.inl 3 : Int ⊕ PS) else .inr (7, ins, po, fr, to, ln, ea, nds, li, g)) = .inr τ := hs
        rw [if_pos x] at hs; cases hs
      · have hs : (if 10 ≤ nds then (Sum.inl 3 : Int ⊕ PS) else .inr (7, ins, po, fr, to, ln, ea, nds, li, g)) = .inr τ := hs
        rw [if_neg x] at hs
        rw [← Sum.inr.inj hs]
        exact (MI_1n h x).2
    · by_cases c3 : (q = 1 ∨ q = 2) ∧ w = 3
      · obtain ⟨c3, c4⟩ := c3
        subst c4
        rw [wd_shift c3] at hs
        by_cases x : 8 ≤ g 2
        · rw [if_pos x] at hs; cases hs
        · rw [if_neg x] at hs
          rw [← Sum.inr.inj hs]
          exact MI_12s c3 h x
      · by_cases c4 : q = 3 ∧ w = 4
        · obtain ⟨c4, c5⟩ := c4
          subst c4; subst c5
          by_cases x : 3 ≤ g (151 + 5 * g 2)
          · have hs : (if 3 ≤ g (151 + 5 * g 2) then (Sum.inl 3 : Int ⊕ PS) else .inr (11, ins, po, fr, to, ln, ea, nds, li, g)) = .inr τ := hs
            rw [if_pos x] at hs; cases hs
          · have hs : (if 3 ≤ g (151 + 5 * g 2) then (Sum.inl 3 : Int ⊕ PS) else .inr (11, ins, po, fr, to, ln, ea, nds, li, g)) = .inr τ := hs
            rw [if_neg x] at hs
            rw [← Sum.inr.inj hs]
            exact (MI_3p h x).2
        · rw [wd_no c1 c2 c3 c4] at hs; cases hs
theorem MI_stp {b : Int → Int} {n s : Int} (h : MI (q, ins, po, fr, to, ln, ea, nds, li, g)) {τ : PS} (hs : stp b n s (q, ins, po, fr, to, ln, ea, nds, li, g) = .inr τ) : MI τ := by
  have kr := tkK_rng b n s
  rcases (show tkK b n s = 0 ∨ tkK b n s = 1 ∨ tkK b n s = 2 ∨ tkK b n s = 3 by omega) with e | e | e | e
  · rw [stp_0 e] at hs; cases hs
  · rw [stp_1 e] at hs; exact MI_wd h hs
  · rw [stp_2 e] at hs
    by_cases h5 : 5 ≤ q
    · by_cases x : nmb b s (tkE b n s) < loS (q, ins, po, fr, to, ln, ea, nds, li, g) ∨ hiS (q, ins, po, fr, to, ln, ea, nds, li, g) < nmb b s (tkE b n s)
      · rw [nu_2 h5 x] at hs; cases hs
      · rw [nu_3 h5 x] at hs
        rw [← Sum.inr.inj hs]
        exact MI_kp h h5 (by omega) (by omega)
    · rw [nu_no (by omega)] at hs; cases hs
  · rw [stp_3 e] at hs
    by_cases x : ¬ q = 4 ∧ ¬ q = 3
    · rw [si_no x] at hs; cases hs
    · rw [si_yes x] at hs
      rw [← Sum.inr.inj hs]
      by_cases y : q = 4
      · subst y
        have z := MI_4 h
        rw [if_neg (by omega), if_neg (by omega)]
        exact z.2
      · have y3 : q = 3 := by omega
        subst y3
        have z := MI_3 h
        rw [if_pos z.1, if_pos z.1]
        exact z.2.2
theorem nm_tk {b : Int → Int} {n s : Int} (h : s < n) (hk : tkK b n s = 2) : 0 ≤ nmb b s (tkE b n s) ∧ nmb b s (tkE b n s) ≤ 99 := by
  have tr := tkE_r (b := b) (n := n) (s := s) h
  by_cases h59 : b s = 59
  · rw [tkK_3 h59] at hk; omega
  · by_cases hr : isRn (b s)
    · by_cases h0 : dgs b s (tkE b n s) = 0
      · rw [tkK_1 hr h0] at hk; omega
      · by_cases h2 : dgs b s (tkE b n s) = tkE b n s - s ∧ tkE b n s - s ≤ 2
        · exact nmb_rng tr.1 h2.2 ((dgs_all (b := b) (s := s) _ (i := tkE b n s) rfl (by omega)).1.mp h2.1)
        · rw [tkK_0 hr h0 h2] at hk; omega
    · rw [tkK_x h59 hr] at hk; omega
end MK
set_option maxHeartbeats 4000000 in
set_option maxRecDepth 100000 in
theorem c_X2_keepNumber {l : Launch} {D : va_G} {C : Nat → ClassId} {q : Nat → Nat} {fk tk ts te st ins po fr to ln ea len : Int} {bs : Int → Int} {dp dw dl dn ds dk : Int} {a0 a1 a2 a3 a4 a5 a6 a7 a8 a9 aA : Int → Int} {g : Int → Int} (hM : MI (st, ins, po, fr, to, ln, ea, dn, dl, g)) (hd : DrP g st dp dw ds dk a0 a1 a2 a3 a4 a5 a6 a7 a8 a9 aA) {nn : Int} (h5 : 5 ≤ st) (hlo : loS (st, ins, po, fr, to, ln, ea, dn, dl, g) ≤ nn) (hhi : nn ≤ hiS (st, ins, po, fr, to, ln, ea, dn, dl, g)) : CV (S := Int × Int × Int × Int × Int × Int × Int × Int × Int × Int × Int × (Int → Int) × (Int → Int) × (Int → Int) × (Int → Int) × (Int → Int) × (Int → Int) × (Int → Int) × (Int → Int) × (Int → Int) × (Int → Int) × (Int → Int)) l yX2_keepNumber wsX2_keepNumber 2 48 D C [.ref (q 3), .int (iI (nn))] (wRd q C fk tk ts te st ins po fr to ln ea ++ wTp q C len bs ++ wDr q C dp dw dl dn ds dk a0 a1 a2 a3 a4 a5 a6 a7 a8 a9 aA) (fun u => wRd q C fk tk ts te (u.1) ins (u.2.1) (u.2.2.1) (u.2.2.2.1) (u.2.2.2.2.1) (u.2.2.2.2.2.1) ++ wTp q C len bs ++ wDr q C (u.2.2.2.2.2.2.1) (u.2.2.2.2.2.2.2.1) dl (u.2.2.2.2.2.2.2.2.1) (u.2.2.2.2.2.2.2.2.2.1) (u.2.2.2.2.2.2.2.2.2.2.1) (u.2.2.2.2.2.2.2.2.2.2.2.1) (u.2.2.2.2.2.2.2.2.2.2.2.2.1) (u.2.2.2.2.2.2.2.2.2.2.2.2.2.1) (u.2.2.2.2.2.2.2.2.2.2.2.2.2.2.1) (u.2.2.2.2.2.2.2.2.2.2.2.2.2.2.2.1) (u.2.2.2.2.2.2.2.2.2.2.2.2.2.2.2.2.1) (u.2.2.2.2.2.2.2.2.2.2.2.2.2.2.2.2.2.1) (u.2.2.2.2.2.2.2.2.2.2.2.2.2.2.2.2.2.2.1) (u.2.2.2.2.2.2.2.2.2.2.2.2.2.2.2.2.2.2.2.1) (u.2.2.2.2.2.2.2.2.2.2.2.2.2.2.2.2.2.2.2.2.1) (u.2.2.2.2.2.2.2.2.2.2.2.2.2.2.2.2.2.2.2.2.2)) (fun u => ∃ g' : Int → Int, kpS nn (st, ins, po, fr, to, ln, ea, dn, dl, g) = (u.1, ins, u.2.1, u.2.2.1, u.2.2.2.1, u.2.2.2.2.1, u.2.2.2.2.2.1, u.2.2.2.2.2.2.2.2.1, dl, g') ∧ DrP g' (u.1) (u.2.2.2.2.2.2.1) (u.2.2.2.2.2.2.2.1) (u.2.2.2.2.2.2.2.2.2.1) (u.2.2.2.2.2.2.2.2.2.2.1) (u.2.2.2.2.2.2.2.2.2.2.2.1) (u.2.2.2.2.2.2.2.2.2.2.2.2.1) (u.2.2.2.2.2.2.2.2.2.2.2.2.2.1) (u.2.2.2.2.2.2.2.2.2.2.2.2.2.2.1) (u.2.2.2.2.2.2.2.2.2.2.2.2.2.2.2.1) (u.2.2.2.2.2.2.2.2.2.2.2.2.2.2.2.2.1) (u.2.2.2.2.2.2.2.2.2.2.2.2.2.2.2.2.2.1) (u.2.2.2.2.2.2.2.2.2.2.2.2.2.2.2.2.2.2.1) (u.2.2.2.2.2.2.2.2.2.2.2.2.2.2.2.2.2.2.2.1) (u.2.2.2.2.2.2.2.2.2.2.2.2.2.2.2.2.2.2.2.2.1) (u.2.2.2.2.2.2.2.2.2.2.2.2.2.2.2.2.2.2.2.2.2)) := by
  refine CV_of (cc := cX2_keepNumber) (maxL := 2) (by decide) rfl (Nat.le_of_ble_eq_true rfl) ?_
  intro p e s m below meth c A Q ls hx hb hml hown hts hK hNW hA hl hP hD hS hret
  have hl : lv_has ls 2 [(0, .ref (q 3)), (1, .int (iI (nn)))] := hl
  have hs0 := hM.1.1
  have hi0 := hM.1.2.1
  refine lv_aload_n hx hb dX2_keepNumber_0 rfl (lv_at hl 0 rfl) ?_
  refine va_get (D := D) (ci := 2) (v := .int (iI (st))) (C := RX2) (T := TX2) (N := 13) hx hb hts (by decide +kernel) hown hK hP 0 rfl rfl 6 (by decide) (hts (.fieldLink RX2 24 "BreakSetter$Reader" "state" "I") (by decide +kernel)) (fun _ h9 => h9) rfl dX2_keepNumber_1 ?_
  by_cases hsw : 5 ≤ st ∧ st ≤ 12
  · skip
    obtain ⟨hsw1, hsw2⟩ := hsw
    rcases (show st = 5 ∨ st = 6 ∨ st = 7 ∨ st = 8 ∨ st = 9 ∨ st = 10 ∨ st = 11 ∨ st = 12 by omega) with hsw | hsw | hsw | hsw | hsw | hsw | hsw | hsw
    · skip
      refine j_swIn (k := 5) (off := 48) (tgt := 52) hx hb dX2_keepNumber_4 hsw (by decide) (by decide) rfl rfl ?_
      rw [hsw] at hM hd hlo hhi
      have hlo : 1 ≤ nn := hlo
      have hhi : nn ≤ 3 := hhi
      have sp := hM.2.2.1
      have g2 := hM.1.2.2.2.1
      have hbn : 0 ≤ g 2 + prg 5 ∧ g 2 + prg 5 ≤ 8 ∧ 0 ≤ g 3 := ⟨sp.1, sp.2.1, sp.2.2.1⟩
      refine lv_aload_n hx hb dX2_keepNumber_52 rfl (lv_at hl 0 rfl) ?_
      refine va_get (D := D) (ci := 2) (v := .ref (q 4)) (C := RX2) (T := TX2) (N := 13) hx hb hts (by decide +kernel) hown hK hP 0 rfl rfl 1 (by decide) (hts (.fieldLink RX2 15 "BreakSetter$Reader" "draft" "LBreakSetter$Plan;") (by decide +kernel)) (fun _ h9 => h9) rfl dX2_keepNumber_53 ?_
      refine lv_iload_n hx hb dX2_keepNumber_56 rfl (lv_at hl 1 rfl) ?_
      refine va_put (D := D) (ci := 1) (v := .int (iI (nn))) (ty := .int) (C := RX1) (T := TX1) (N := 17) hx hb hts (by decide +kernel) tyX1 tyX1_ok nmX1 hown hK hP hD hS 3 rfl rfl 0 (by decide) (hts (.fieldLink RX2 147 "BreakSetter$Plan" "posts" "I") (by decide +kernel)) (fun _ h9 => h9) rfl (by decide +kernel) rfl rfl (Nat.le_of_ble_eq_true rfl) dX2_keepNumber_57 (fun H locs hP hD hS => ?_)
      have hP : va_P D vwCl (wRd q C fk tk ts te st ins po fr to ln ea ++ wTp q C len bs ++ wDr q C nn dw dl dn ds dk a0 a1 a2 a3 a4 a5 a6 a7 a8 a9 aA) H := hP
      have hD : va_D A (wRd q C fk tk ts te st ins po fr to ln ea ++ wTp q C len bs ++ wDr q C nn dw dl dn ds dk a0 a1 a2 a3 a4 a5 a6 a7 a8 a9 aA) := hD
      refine lv_aload_n hx hb dX2_keepNumber_60 rfl (lv_at hl 0 rfl) ?_
      refine lv_bipush (v := iI (6)) hx hb dX2_keepNumber_61 (by decide) ?_
      refine va_put (D := D) (ci := 2) (v := .int (iI (6))) (ty := .int) (C := RX2) (T := TX2) (N := 13) hx hb hts (by decide +kernel) tyX2 tyX2_ok nmX2 hown hK hP hD hS 0 rfl rfl 6 (by decide) (hts (.fieldLink RX2 24 "BreakSetter$Reader" "state" "I") (by decide +kernel)) (fun _ h9 => h9) rfl (by decide +kernel) rfl rfl (Nat.le_of_ble_eq_true rfl) dX2_keepNumber_63 (fun H locs hP hD hS => ?_)
      have hP : va_P D vwCl (wRd q C fk tk ts te 6 ins po fr to ln ea ++ wTp q C len bs ++ wDr q C nn dw dl dn ds dk a0 a1 a2 a3 a4 a5 a6 a7 a8 a9 aA) H := hP
      have hD : va_D A (wRd q C fk tk ts te 6 ins po fr to ln ea ++ wTp q C len bs ++ wDr q C nn dw dl dn ds dk a0 a1 a2 a3 a4 a5 a6 a7 a8 a9 aA) := hD
      refine lv_goto (tgt := 241) hx hb dX2_keepNumber_66 rfl ?_
      exact hret H locs ls 241 (6, po, fr, to, ln, ea, nn, dw, dn, ds, dk, a0, a1, a2, a3, a4, a5, a6, a7, a8, a9, aA) dX2_keepNumber_241 ⟨up g 0 nn, by rw [hsw]; rfl, DrP_up (st := 5) hd (by rw [prg_0 (by omega), prg_0 (by omega)]) (Or.inl rfl) hbn (fun _ => (up_s _ _ _).symm) (fun z => absurd (Or.inr (Or.inr rfl)) z)⟩ hP hD hS
    · skip
      refine j_swIn (k := 6) (off := 65) (tgt := 69) hx hb dX2_keepNumber_4 hsw (by decide) (by decide) rfl rfl ?_
      rw [hsw] at hM hd hlo hhi
      have hlo : 1 ≤ nn := hlo
      have hhi : nn ≤ 4 := hhi
      have sp := hM.2.2.1
      have g2 := hM.1.2.2.2.1
      have hbn : 0 ≤ g 2 + prg 6 ∧ g 2 + prg 6 ≤ 8 ∧ 0 ≤ g 3 := ⟨sp.1, sp.2.1, sp.2.2.1⟩
      refine lv_aload_n hx hb dX2_keepNumber_69 rfl (lv_at hl 0 rfl) ?_
      refine va_get (D := D) (ci := 2) (v := .ref (q 4)) (C := RX2) (T := TX2) (N := 13) hx hb hts (by decide +kernel) hown hK hP 0 rfl rfl 1 (by decide) (hts (.fieldLink RX2 15 "BreakSetter$Reader" "draft" "LBreakSetter$Plan;") (by decide +kernel)) (fun _ h9 => h9) rfl dX2_keepNumber_70 ?_
      refine lv_iload_n hx hb dX2_keepNumber_73 rfl (lv_at hl 1 rfl) ?_
      refine va_put (D := D) (ci := 1) (v := .int (iI (nn))) (ty := .int) (C := RX1) (T := TX1) (N := 17) hx hb hts (by decide +kernel) tyX1 tyX1_ok nmX1 hown hK hP hD hS 3 rfl rfl 1 (by decide) (hts (.fieldLink RX2 153 "BreakSetter$Plan" "walk" "I") (by decide +kernel)) (fun _ h9 => h9) rfl (by decide +kernel) rfl rfl (Nat.le_of_ble_eq_true rfl) dX2_keepNumber_74 (fun H locs hP hD hS => ?_)
      have hP : va_P D vwCl (wRd q C fk tk ts te st ins po fr to ln ea ++ wTp q C len bs ++ wDr q C dp nn dl dn ds dk a0 a1 a2 a3 a4 a5 a6 a7 a8 a9 aA) H := hP
      have hD : va_D A (wRd q C fk tk ts te st ins po fr to ln ea ++ wTp q C len bs ++ wDr q C dp nn dl dn ds dk a0 a1 a2 a3 a4 a5 a6 a7 a8 a9 aA) := hD
      refine lv_aload_n hx hb dX2_keepNumber_77 rfl (lv_at hl 0 rfl) ?_
      refine lv_iconst (v := iI (4)) hx hb dX2_keepNumber_78 rfl ?_
      refine va_put (D := D) (ci := 2) (v := .int (iI (4))) (ty := .int) (C := RX2) (T := TX2) (N := 13) hx hb hts (by decide +kernel) tyX2 tyX2_ok nmX2 hown hK hP hD hS 0 rfl rfl 6 (by decide) (hts (.fieldLink RX2 24 "BreakSetter$Reader" "state" "I") (by decide +kernel)) (fun _ h9 => h9) rfl (by decide +kernel) rfl rfl (Nat.le_of_ble_eq_true rfl) dX2_keepNumber_79 (fun H locs hP hD hS => ?_)
      have hP : va_P D vwCl (wRd q C fk tk ts te 4 ins po fr to ln ea ++ wTp q C len bs ++ wDr q C dp nn dl dn ds dk a0 a1 a2 a3 a4 a5 a6 a7 a8 a9 aA) H := hP
      have hD : va_D A (wRd q C fk tk ts te 4 ins po fr to ln ea ++ wTp q C len bs ++ wDr q C dp nn dl dn ds dk a0 a1 a2 a3 a4 a5 a6 a7 a8 a9 aA) := hD
      refine lv_goto (tgt := 241) hx hb dX2_keepNumber_82 rfl ?_
      exact hret H locs ls 241 (4, po, fr, to, ln, ea, dp, nn, dn, ds, dk, a0, a1, a2, a3, a4, a5, a6, a7, a8, a9, aA) dX2_keepNumber_241 ⟨up g 1 nn, by rw [hsw]; rfl, DrP_up (st := 6) hd (by rw [prg_0 (by omega), prg_0 (by omega)]) (Or.inr (Or.inl rfl)) hbn (fun _ => by rw [up_n _ _ (by omega)]; exact hd.1 (by omega)) (fun _ => (up_s _ _ _).symm)⟩ hP hD hS
    · skip
      refine j_swIn (k := 7) (off := 81) (tgt := 85) hx hb dX2_keepNumber_4 hsw (by decide) (by decide) rfl rfl ?_
      rw [hsw] at hM hd hlo hhi
      have hlo : 0 ≤ nn := hlo
      have hhi : nn ≤ g 0 - 1 := hhi
      have sp := hM.2.2.1
      have g2 := hM.1.2.2.2.1
      have hbn : 0 ≤ g 2 + prg 7 ∧ g 2 + prg 7 ≤ 8 ∧ 0 ≤ g 3 := ⟨sp.1, sp.2.1, sp.2.2.1⟩
      refine lv_aload_n hx hb dX2_keepNumber_85 rfl (lv_at hl 0 rfl) ?_
      refine lv_iload_n hx hb dX2_keepNumber_86 rfl (lv_at hl 1 rfl) ?_
      refine va_put (D := D) (ci := 2) (v := .int (iI (nn))) (ty := .int) (C := RX2) (T := TX2) (N := 13) hx hb hts (by decide +kernel) tyX2 tyX2_ok nmX2 hown hK hP hD hS 0 rfl rfl 8 (by decide) (hts (.fieldLink RX2 156 "BreakSetter$Reader" "post" "I") (by decide +kernel)) (fun _ h9 => h9) rfl (by decide +kernel) rfl rfl (Nat.le_of_ble_eq_true rfl) dX2_keepNumber_87 (fun H locs hP hD hS => ?_)
      have hP : va_P D vwCl (wRd q C fk tk ts te st ins nn fr to ln ea ++ wTp q C len bs ++ wDr q C dp dw dl dn ds dk a0 a1 a2 a3 a4 a5 a6 a7 a8 a9 aA) H := hP
      have hD : va_D A (wRd q C fk tk ts te st ins nn fr to ln ea ++ wTp q C len bs ++ wDr q C dp dw dl dn ds dk a0 a1 a2 a3 a4 a5 a6 a7 a8 a9 aA) := hD
      refine lv_aload_n hx hb dX2_keepNumber_90 rfl (lv_at hl 0 rfl) ?_
      refine lv_bipush (v := iI (8)) hx hb dX2_keepNumber_91 (by decide) ?_
      refine va_put (D := D) (ci := 2) (v := .int (iI (8))) (ty := .int) (C := RX2) (T := TX2) (N := 13) hx hb hts (by decide +kernel) tyX2 tyX2_ok nmX2 hown hK hP hD hS 0 rfl rfl 6 (by decide) (hts (.fieldLink RX2 24 "BreakSetter$Reader" "state" "I") (by decide +kernel)) (fun _ h9 => h9) rfl (by decide +kernel) rfl rfl (Nat.le_of_ble_eq_true rfl) dX2_keepNumber_93 (fun H locs hP hD hS => ?_)
      have hP : va_P D vwCl (wRd q C fk tk ts te 8 ins nn fr to ln ea ++ wTp q C len bs ++ wDr q C dp dw dl dn ds dk a0 a1 a2 a3 a4 a5 a6 a7 a8 a9 aA) H := hP
      have hD : va_D A (wRd q C fk tk ts te 8 ins nn fr to ln ea ++ wTp q C len bs ++ wDr q C dp dw dl dn ds dk a0 a1 a2 a3 a4 a5 a6 a7 a8 a9 aA) := hD
      refine lv_goto (tgt := 241) hx hb dX2_keepNumber_96 rfl ?_
      exact hret H locs ls 241 (8, nn, fr, to, ln, ea, dp, dw, dn, ds, dk, a0, a1, a2, a3, a4, a5, a6, a7, a8, a9, aA) dX2_keepNumber_241 (by by_cases hi : ins = 1; (exact ⟨up g (148 + 5 * g 2) nn, by rw [hsw, hi]; rfl, DrP_up (st := 7) hd (by rw [prg_0 (by omega), prg_0 (by omega)]) (Or.inr (Or.inr (Or.inl (by have := MI_g2 (by rw [← hi]; exact hM) (by omega); rw [prg_0 (by omega)]; omega)))) hbn (fun _ => by rw [up_n _ _ (by omega)]; exact hd.1 (by omega)) (fun _ => by rw [up_n _ _ (by omega)]; exact hd.2.1 (by omega))⟩); (exact ⟨g, by rw [hsw, show ins = 0 by omega]; rfl, DrP_st (st := 7) hd (by rw [prg_0 (by omega), prg_0 (by omega)]) (fun _ => hd.1 (by omega)) (fun _ => hd.2.1 (by omega))⟩)) hP hD hS
    · skip
      refine j_swIn (k := 8) (off := 95) (tgt := 99) hx hb dX2_keepNumber_4 hsw (by decide) (by decide) rfl rfl ?_
      rw [hsw] at hM hd hlo hhi
      have hlo : 0 ≤ nn := hlo
      have hhi : nn ≤ 47 := hhi
      have sp := hM.2.2.1
      have g2 := hM.1.2.2.2.1
      have hbn : 0 ≤ g 2 + prg 8 ∧ g 2 + prg 8 ≤ 8 ∧ 0 ≤ g 3 := ⟨sp.1, sp.2.1, sp.2.2.1⟩
      refine lv_aload_n hx hb dX2_keepNumber_99 rfl (lv_at hl 0 rfl) ?_
      refine lv_iload_n hx hb dX2_keepNumber_100 rfl (lv_at hl 1 rfl) ?_
      refine va_put (D := D) (ci := 2) (v := .int (iI (nn))) (ty := .int) (C := RX2) (T := TX2) (N := 13) hx hb hts (by decide +kernel) tyX2 tyX2_ok nmX2 hown hK hP hD hS 0 rfl rfl 9 (by decide) (hts (.fieldLink RX2 141 "BreakSetter$Reader" "from" "I") (by decide +kernel)) (fun _ h9 => h9) rfl (by decide +kernel) rfl rfl (Nat.le_of_ble_eq_true rfl) dX2_keepNumber_101 (fun H locs hP hD hS => ?_)
      have hP : va_P D vwCl (wRd q C fk tk ts te st ins po nn to ln ea ++ wTp q C len bs ++ wDr q C dp dw dl dn ds dk a0 a1 a2 a3 a4 a5 a6 a7 a8 a9 aA) H := hP
      have hD : va_D A (wRd q C fk tk ts te st ins po nn to ln ea ++ wTp q C len bs ++ wDr q C dp dw dl dn ds dk a0 a1 a2 a3 a4 a5 a6 a7 a8 a9 aA) := hD
      refine lv_aload_n hx hb dX2_keepNumber_104 rfl (lv_at hl 0 rfl) ?_
      refine lv_bipush (v := iI (9)) hx hb dX2_keepNumber_105 (by decide) ?_
      refine va_put (D := D) (ci := 2) (v := .int (iI (9))) (ty := .int) (C := RX2) (T := TX2) (N := 13) hx hb hts (by decide +kernel) tyX2 tyX2_ok nmX2 hown hK hP hD hS 0 rfl rfl 6 (by decide) (hts (.fieldLink RX2 24 "BreakSetter$Reader" "state" "I") (by decide +kernel)) (fun _ h9 => h9) rfl (by decide +kernel) rfl rfl (Nat.le_of_ble_eq_true rfl) dX2_keepNumber_107 (fun H locs hP hD hS => ?_)
      have hP : va_P D vwCl (wRd q C fk tk ts te 9 ins po nn to ln ea ++ wTp q C len bs ++ wDr q C dp dw dl dn ds dk a0 a1 a2 a3 a4 a5 a6 a7 a8 a9 aA) H := hP
      have hD : va_D A (wRd q C fk tk ts te 9 ins po nn to ln ea ++ wTp q C len bs ++ wDr q C dp dw dl dn ds dk a0 a1 a2 a3 a4 a5 a6 a7 a8 a9 aA) := hD
      refine lv_goto (tgt := 241) hx hb dX2_keepNumber_110 rfl ?_
      exact hret H locs ls 241 (9, po, nn, to, ln, ea, dp, dw, dn, ds, dk, a0, a1, a2, a3, a4, a5, a6, a7, a8, a9, aA) dX2_keepNumber_241 (by by_cases hi : ins = 1; (exact ⟨up g (149 + 5 * g 2) nn, by rw [hsw, hi]; rfl, DrP_up (st := 8) hd (by rw [prg_0 (by omega), prg_0 (by omega)]) (Or.inr (Or.inr (Or.inl (by have := MI_g2 (by rw [← hi]; exact hM) (by omega); rw [prg_0 (by omega)]; omega)))) hbn (fun _ => by rw [up_n _ _ (by omega)]; exact hd.1 (by omega)) (fun _ => by rw [up_n _ _ (by omega)]; exact hd.2.1 (by omega))⟩); (exact ⟨g, by rw [hsw, show ins = 0 by omega]; rfl, DrP_st (st := 8) hd (by rw [prg_0 (by omega), prg_0 (by omega)]) (fun _ => hd.1 (by omega)) (fun _ => hd.2.1 (by omega))⟩)) hP hD hS
    · skip
      refine j_swIn (k := 9) (off := 109) (tgt := 113) hx hb dX2_keepNumber_4 hsw (by decide) (by decide) rfl rfl ?_
      rw [hsw] at hM hd hlo hhi
      have hlo : fr ≤ nn := hlo
      have hhi : nn ≤ 47 := hhi
      have sp := hM.2.2.1
      have g2 := hM.1.2.2.2.1
      have hbn : 0 ≤ g 2 + prg 9 ∧ g 2 + prg 9 ≤ 8 ∧ 0 ≤ g 3 := ⟨sp.1, sp.2.1, sp.2.2.1⟩
      refine lv_aload_n hx hb dX2_keepNumber_113 rfl (lv_at hl 0 rfl) ?_
      refine lv_iload_n hx hb dX2_keepNumber_114 rfl (lv_at hl 1 rfl) ?_
      refine va_put (D := D) (ci := 2) (v := .int (iI (nn))) (ty := .int) (C := RX2) (T := TX2) (N := 13) hx hb hts (by decide +kernel) tyX2 tyX2_ok nmX2 hown hK hP hD hS 0 rfl rfl 10 (by decide) (hts (.fieldLink RX2 149 "BreakSetter$Reader" "to" "I") (by decide +kernel)) (fun _ h9 => h9) rfl (by decide +kernel) rfl rfl (Nat.le_of_ble_eq_true rfl) dX2_keepNumber_115 (fun H locs hP hD hS => ?_)
      have hP : va_P D vwCl (wRd q C fk tk ts te st ins po fr nn ln ea ++ wTp q C len bs ++ wDr q C dp dw dl dn ds dk a0 a1 a2 a3 a4 a5 a6 a7 a8 a9 aA) H := hP
      have hD : va_D A (wRd q C fk tk ts te st ins po fr nn ln ea ++ wTp q C len bs ++ wDr q C dp dw dl dn ds dk a0 a1 a2 a3 a4 a5 a6 a7 a8 a9 aA) := hD
      refine lv_aload_n hx hb dX2_keepNumber_118 rfl (lv_at hl 0 rfl) ?_
      refine lv_aload_n hx hb dX2_keepNumber_119 rfl (lv_at hl 0 rfl) ?_
      refine va_get (D := D) (ci := 2) (v := .int (iI (ins))) (C := RX2) (T := TX2) (N := 13) hx hb hts (by decide +kernel) hown hK hP 0 rfl rfl 7 (by decide) (hts (.fieldLink RX2 28 "BreakSetter$Reader" "inShift" "Z") (by decide +kernel)) (fun _ h9 => h9) rfl dX2_keepNumber_120 ?_
      refine j_if_eq (tgt := 130) hx hb dX2_keepNumber_123 rfl ⟨by omega, by omega⟩ (fun c123 => ?_) (fun c123 => ?_)
      · skip
        refine lv_bipush (v := iI (10)) hx hb dX2_keepNumber_130 (by decide) ?_
        refine va_put (D := D) (ci := 2) (v := .int (iI (10))) (ty := .int) (C := RX2) (T := TX2) (N := 13) hx hb hts (by decide +kernel) tyX2 tyX2_ok nmX2 hown hK hP hD hS 0 rfl rfl 6 (by decide) (hts (.fieldLink RX2 24 "BreakSetter$Reader" "state" "I") (by decide +kernel)) (fun _ h9 => h9) rfl (by decide +kernel) rfl rfl (Nat.le_of_ble_eq_true rfl) dX2_keepNumber_132 (fun H locs hP hD hS => ?_)
        have hP : va_P D vwCl (wRd q C fk tk ts te 10 ins po fr nn ln ea ++ wTp q C len bs ++ wDr q C dp dw dl dn ds dk a0 a1 a2 a3 a4 a5 a6 a7 a8 a9 aA) H := hP
        have hD : va_D A (wRd q C fk tk ts te 10 ins po fr nn ln ea ++ wTp q C len bs ++ wDr q C dp dw dl dn ds dk a0 a1 a2 a3 a4 a5 a6 a7 a8 a9 aA) := hD
        refine lv_aload_n hx hb dX2_keepNumber_135 rfl (lv_at hl 0 rfl) ?_
        refine va_get (D := D) (ci := 2) (v := .int (iI (ins))) (C := RX2) (T := TX2) (N := 13) hx hb hts (by decide +kernel) hown hK hP 0 rfl rfl 7 (by decide) (hts (.fieldLink RX2 28 "BreakSetter$Reader" "inShift" "Z") (by decide +kernel)) (fun _ h9 => h9) rfl dX2_keepNumber_136 ?_
        refine j_if_eq (tgt := 241) hx hb dX2_keepNumber_139 rfl ⟨by omega, by omega⟩ (fun c139 => ?_) (fun c139 => ?_)
        · skip
          exact hret H locs ls 241 (10, po, fr, nn, ln, ea, dp, dw, dn, ds, dk, a0, a1, a2, a3, a4, a5, a6, a7, a8, a9, aA) dX2_keepNumber_241 ⟨g, by rw [hsw, c123]; rfl, DrP_st (st := 9) hd (by rw [prg_0 (by omega), prg_0 (by omega)]) (fun _ => hd.1 (by omega)) (fun _ => hd.2.1 (by omega))⟩ hP hD hS
        · skip
          exact absurd c123 c139
      · skip
        refine lv_iconst (v := iI (3)) hx hb dX2_keepNumber_126 rfl ?_
        refine lv_goto (tgt := 132) hx hb dX2_keepNumber_127 rfl ?_
        refine va_put (D := D) (ci := 2) (v := .int (iI (3))) (ty := .int) (C := RX2) (T := TX2) (N := 13) hx hb hts (by decide +kernel) tyX2 tyX2_ok nmX2 hown hK hP hD hS 0 rfl rfl 6 (by decide) (hts (.fieldLink RX2 24 "BreakSetter$Reader" "state" "I") (by decide +kernel)) (fun _ h9 => h9) rfl (by decide +kernel) rfl rfl (Nat.le_of_ble_eq_true rfl) dX2_keepNumber_132 (fun H locs hP hD hS => ?_)
        have hP : va_P D vwCl (wRd q C fk tk ts te 3 ins po fr nn ln ea ++ wTp q C len bs ++ wDr q C dp dw dl dn ds dk a0 a1 a2 a3 a4 a5 a6 a7 a8 a9 aA) H := hP
        have hD : va_D A (wRd q C fk tk ts te 3 ins po fr nn ln ea ++ wTp q C len bs ++ wDr q C dp dw dl dn ds dk a0 a1 a2 a3 a4 a5 a6 a7 a8 a9 aA) := hD
        refine lv_aload_n hx hb dX2_keepNumber_135 rfl (lv_at hl 0 rfl) ?_
        refine va_get (D := D) (ci := 2) (v := .int (iI (ins))) (C := RX2) (T := TX2) (N := 13) hx hb hts (by decide +kernel) hown hK hP 0 rfl rfl 7 (by decide) (hts (.fieldLink RX2 28 "BreakSetter$Reader" "inShift" "Z") (by decide +kernel)) (fun _ h9 => h9) rfl dX2_keepNumber_136 ?_
        refine j_if_eq (tgt := 241) hx hb dX2_keepNumber_139 rfl ⟨by omega, by omega⟩ (fun c139 => ?_) (fun c139 => ?_)
        · skip
          exact absurd c139 c123
        · skip
          have hi1 : ins = 1 := by omega
          have h9 := MI_9f (by rw [← hi1]; exact hM)
          have e3 : ds = g 2 := by have := hd.2.2.1.1; rw [prg_0 (by omega)] at this; omega
          have s3 := sp.2.2
          rw [prg_0 (by omega)] at s3
          refine lv_aload_n hx hb dX2_keepNumber_142 rfl (lv_at hl 0 rfl) ?_
          refine va_get (D := D) (ci := 2) (v := .ref (q 4)) (C := RX2) (T := TX2) (N := 13) hx hb hts (by decide +kernel) hown hK hP 0 rfl rfl 1 (by decide) (hts (.fieldLink RX2 15 "BreakSetter$Reader" "draft" "LBreakSetter$Plan;") (by decide +kernel)) (fun _ h9 => h9) rfl dX2_keepNumber_143 ?_
          refine lv_aload_n hx hb dX2_keepNumber_146 rfl (lv_at hl 0 rfl) ?_
          refine va_get (D := D) (ci := 2) (v := .int (iI (po))) (C := RX2) (T := TX2) (N := 13) hx hb hts (by decide +kernel) hown hK hP 0 rfl rfl 8 (by decide) (hts (.fieldLink RX2 156 "BreakSetter$Reader" "post" "I") (by decide +kernel)) (fun _ h9 => h9) rfl dX2_keepNumber_147 ?_
          refine lv_aload_n hx hb dX2_keepNumber_150 rfl (lv_at hl 0 rfl) ?_
          refine va_get (D := D) (ci := 2) (v := .int (iI (fr))) (C := RX2) (T := TX2) (N := 13) hx hb hts (by decide +kernel) hown hK hP 0 rfl rfl 9 (by decide) (hts (.fieldLink RX2 141 "BreakSetter$Reader" "from" "I") (by decide +kernel)) (fun _ h9 => h9) rfl dX2_keepNumber_151 ?_
          refine lv_aload_n hx hb dX2_keepNumber_154 rfl (lv_at hl 0 rfl) ?_
          refine va_get (D := D) (ci := 2) (v := .int (iI (nn))) (C := RX2) (T := TX2) (N := 13) hx hb hts (by decide +kernel) hown hK hP 0 rfl rfl 10 (by decide) (hts (.fieldLink RX2 149 "BreakSetter$Reader" "to" "I") (by decide +kernel)) (fun _ h9 => h9) rfl dX2_keepNumber_155 ?_
          refine CV_callVp (As := [.int (iI (po)), .int (iI (fr)), .int (iI (nn))]) (rest := []) (wn := fun _ => wRd q C fk tk ts te 3 ins po fr nn ln ea ++ wTp q C len bs ++ wDr q C dp dw dl dn (ds + 1) dk a0 (adc a1 (po * 48 + fr) (po * 48 + nn) 1) (up a2 ds po) (up a3 ds fr) (up a4 ds nn) (up a5 ds 0) (up a6 ds dk) a7 a8 a9 aA) ⟨hx, hb, hml, hown, hts⟩ (c_X1_addShift ⟨by omega, by omega⟩ ⟨by omega, by omega⟩ ⟨by omega, by omega, by omega⟩) (cwV 3 hts gX2_keepNumber_X1_addShift rfl rfl rfl (by decide +kernel) ⟨Nat.le_of_ble_eq_true rfl, Nat.le_of_ble_eq_true rfl⟩) (q0 := 0) rfl rfl rfl hK hNW hP hD hS hA (List.perm_append_comm (l₁ := wRd q C fk tk ts te 3 ins po fr nn ln ea ++ wTp q C len bs) (l₂ := wDr q C dp dw dl dn ds dk a0 a1 a2 a3 a4 a5 a6 a7 a8 a9 aA)) (fun _ => List.perm_append_comm) rfl hl.1 rfl (Nat.le_of_ble_eq_true rfl) dX2_keepNumber_158 ⟨Nat.zero_le _, Nat.zero_le _⟩ (fun u9 H locs hw9 hP hD hS => ?_)
          have hP : va_P D vwCl (wRd q C fk tk ts te 3 ins po fr nn ln ea ++ wTp q C len bs ++ wDr q C dp dw dl dn (ds + 1) dk a0 (adc a1 (po * 48 + fr) (po * 48 + nn) 1) (up a2 ds po) (up a3 ds fr) (up a4 ds nn) (up a5 ds 0) (up a6 ds dk) a7 a8 a9 aA) H := hP
          have hD : va_D A (wRd q C fk tk ts te 3 ins po fr nn ln ea ++ wTp q C len bs ++ wDr q C dp dw dl dn (ds + 1) dk a0 (adc a1 (po * 48 + fr) (po * 48 + nn) 1) (up a2 ds po) (up a3 ds fr) (up a4 ds nn) (up a5 ds 0) (up a6 ds dk) a7 a8 a9 aA) := hD
          refine lv_goto (tgt := 241) hx hb dX2_keepNumber_161 rfl ?_
          exact hret H locs ls 241 (3, po, fr, nn, ln, ea, dp, dw, dn, ds + 1, dk, a0, adc a1 (po * 48 + fr) (po * 48 + nn) 1, up a2 ds po, up a3 ds fr, up a4 ds nn, up a5 ds 0, up a6 ds dk, a7, a8, a9, aA) dX2_keepNumber_241 ⟨_, by rw [hsw, hi1]; rfl, DrP_9 hd ⟨by omega, by omega, by omega, by omega⟩ h9.1 h9.2.1 h9.2.2.1 ⟨by omega, by omega⟩ ⟨by omega, by omega, by omega⟩⟩ hP hD hS
    · skip
      refine j_swIn (k := 10) (off := 160) (tgt := 164) hx hb dX2_keepNumber_4 hsw (by decide) (by decide) rfl rfl ?_
      rw [hsw] at hM hd hlo hhi
      have hlo : 0 ≤ nn := hlo
      have hhi : nn ≤ 9 := hhi
      have sp := hM.2.2.1
      have g2 := hM.1.2.2.2.1
      have hbn : 0 ≤ g 2 + prg 10 ∧ g 2 + prg 10 ≤ 8 ∧ 0 ≤ g 3 := ⟨sp.1, sp.2.1, sp.2.2.1⟩
      have h10 := MI_10f hM
      rw [prg_0 (by omega)] at sp
      refine lv_aload_n hx hb dX2_keepNumber_164 rfl (lv_at hl 0 rfl) ?_
      refine va_get (D := D) (ci := 2) (v := .ref (q 4)) (C := RX2) (T := TX2) (N := 13) hx hb hts (by decide +kernel) hown hK hP 0 rfl rfl 1 (by decide) (hts (.fieldLink RX2 15 "BreakSetter$Reader" "draft" "LBreakSetter$Plan;") (by decide +kernel)) (fun _ h9 => h9) rfl dX2_keepNumber_165 ?_
      refine lv_aload_n hx hb dX2_keepNumber_168 rfl (lv_at hl 0 rfl) ?_
      refine va_get (D := D) (ci := 2) (v := .int (iI (po))) (C := RX2) (T := TX2) (N := 13) hx hb hts (by decide +kernel) hown hK hP 0 rfl rfl 8 (by decide) (hts (.fieldLink RX2 156 "BreakSetter$Reader" "post" "I") (by decide +kernel)) (fun _ h9 => h9) rfl dX2_keepNumber_169 ?_
      refine lv_aload_n hx hb dX2_keepNumber_172 rfl (lv_at hl 0 rfl) ?_
      refine va_get (D := D) (ci := 2) (v := .int (iI (fr))) (C := RX2) (T := TX2) (N := 13) hx hb hts (by decide +kernel) hown hK hP 0 rfl rfl 9 (by decide) (hts (.fieldLink RX2 141 "BreakSetter$Reader" "from" "I") (by decide +kernel)) (fun _ h9 => h9) rfl dX2_keepNumber_173 ?_
      refine lv_aload_n hx hb dX2_keepNumber_176 rfl (lv_at hl 0 rfl) ?_
      refine va_get (D := D) (ci := 2) (v := .int (iI (to))) (C := RX2) (T := TX2) (N := 13) hx hb hts (by decide +kernel) hown hK hP 0 rfl rfl 10 (by decide) (hts (.fieldLink RX2 149 "BreakSetter$Reader" "to" "I") (by decide +kernel)) (fun _ h9 => h9) rfl dX2_keepNumber_177 ?_
      refine lv_iload_n hx hb dX2_keepNumber_180 rfl (lv_at hl 1 rfl) ?_
      refine CV_callVp (As := [.int (iI (po)), .int (iI (fr)), .int (iI (to)), .int (iI (nn))]) (rest := []) (wn := fun _ => wRd q C fk tk ts te st ins po fr to ln ea ++ wTp q C len bs ++ wDr q C dp dw dl (dn + 1) ds dk (adc a0 (po * 48 + fr) (po * 48 + to) nn) a1 a2 a3 a4 a5 a6 a7 a8 a9 aA) ⟨hx, hb, hml, hown, hts⟩ (c_X1_addNeed ⟨by omega, by omega⟩ ⟨by omega, by omega, by omega⟩) (cwV 4 hts gX2_keepNumber_X1_addNeed rfl rfl rfl (by decide +kernel) ⟨Nat.le_of_ble_eq_true rfl, Nat.le_of_ble_eq_true rfl⟩) (q0 := 0) rfl rfl rfl hK hNW hP hD hS hA (List.perm_append_comm (l₁ := wRd q C fk tk ts te st ins po fr to ln ea ++ wTp q C len bs) (l₂ := wDr q C dp dw dl dn ds dk a0 a1 a2 a3 a4 a5 a6 a7 a8 a9 aA)) (fun _ => List.perm_append_comm) rfl hl.1 rfl (Nat.le_of_ble_eq_true rfl) dX2_keepNumber_181 ⟨Nat.zero_le _, Nat.zero_le _⟩ (fun u9 H locs hw9 hP hD hS => ?_)
      have hP : va_P D vwCl (wRd q C fk tk ts te st ins po fr to ln ea ++ wTp q C len bs ++ wDr q C dp dw dl (dn + 1) ds dk (adc a0 (po * 48 + fr) (po * 48 + to) nn) a1 a2 a3 a4 a5 a6 a7 a8 a9 aA) H := hP
      have hD : va_D A (wRd q C fk tk ts te st ins po fr to ln ea ++ wTp q C len bs ++ wDr q C dp dw dl (dn + 1) ds dk (adc a0 (po * 48 + fr) (po * 48 + to) nn) a1 a2 a3 a4 a5 a6 a7 a8 a9 aA) := hD
      refine lv_aload_n hx hb dX2_keepNumber_184 rfl (lv_at hl 0 rfl) ?_
      refine lv_iconst (v := iI (4)) hx hb dX2_keepNumber_185 rfl ?_
      refine va_put (D := D) (ci := 2) (v := .int (iI (4))) (ty := .int) (C := RX2) (T := TX2) (N := 13) hx hb hts (by decide +kernel) tyX2 tyX2_ok nmX2 hown hK hP hD hS 0 rfl rfl 6 (by decide) (hts (.fieldLink RX2 24 "BreakSetter$Reader" "state" "I") (by decide +kernel)) (fun _ h9 => h9) rfl (by decide +kernel) rfl rfl (Nat.le_of_ble_eq_true rfl) dX2_keepNumber_186 (fun H locs hP hD hS => ?_)
      have hP : va_P D vwCl (wRd q C fk tk ts te 4 ins po fr to ln ea ++ wTp q C len bs ++ wDr q C dp dw dl (dn + 1) ds dk (adc a0 (po * 48 + fr) (po * 48 + to) nn) a1 a2 a3 a4 a5 a6 a7 a8 a9 aA) H := hP
      have hD : va_D A (wRd q C fk tk ts te 4 ins po fr to ln ea ++ wTp q C len bs ++ wDr q C dp dw dl (dn + 1) ds dk (adc a0 (po * 48 + fr) (po * 48 + to) nn) a1 a2 a3 a4 a5 a6 a7 a8 a9 aA) := hD
      refine lv_goto (tgt := 241) hx hb dX2_keepNumber_189 rfl ?_
      exact hret H locs ls 241 (4, po, fr, to, ln, ea, dp, dw, dn + 1, ds, dk, adc a0 (po * 48 + fr) (po * 48 + to) nn, a1, a2, a3, a4, a5, a6, a7, a8, a9, aA) dX2_keepNumber_241 ⟨_, by rw [hsw]; rfl, DrP_10 hd ⟨by omega, by omega, by omega⟩ ⟨by omega, by omega⟩ ⟨by omega, by omega, by omega⟩⟩ hP hD hS
    · skip
      refine j_swIn (k := 11) (off := 188) (tgt := 192) hx hb dX2_keepNumber_4 hsw (by decide) (by decide) rfl rfl ?_
      rw [hsw] at hM hd hlo hhi
      have hlo : 1 ≤ nn := hlo
      have hhi : nn ≤ 4 := hhi
      have sp := hM.2.2.1
      have g2 := hM.1.2.2.2.1
      have hbn : 0 ≤ g 2 + prg 11 ∧ g 2 + prg 11 ≤ 8 ∧ 0 ≤ g 3 := ⟨sp.1, sp.2.1, sp.2.2.1⟩
      refine lv_aload_n hx hb dX2_keepNumber_192 rfl (lv_at hl 0 rfl) ?_
      refine lv_iload_n hx hb dX2_keepNumber_193 rfl (lv_at hl 1 rfl) ?_
      refine va_put (D := D) (ci := 2) (v := .int (iI (nn))) (ty := .int) (C := RX2) (T := TX2) (N := 13) hx hb hts (by decide +kernel) tyX2 tyX2_ok nmX2 hown hK hP hD hS 0 rfl rfl 11 (by decide) (hts (.fieldLink RX2 152 "BreakSetter$Reader" "length" "I") (by decide +kernel)) (fun _ h9 => h9) rfl (by decide +kernel) rfl rfl (Nat.le_of_ble_eq_true rfl) dX2_keepNumber_194 (fun H locs hP hD hS => ?_)
      have hP : va_P D vwCl (wRd q C fk tk ts te st ins po fr to nn ea ++ wTp q C len bs ++ wDr q C dp dw dl dn ds dk a0 a1 a2 a3 a4 a5 a6 a7 a8 a9 aA) H := hP
      have hD : va_D A (wRd q C fk tk ts te st ins po fr to nn ea ++ wTp q C len bs ++ wDr q C dp dw dl dn ds dk a0 a1 a2 a3 a4 a5 a6 a7 a8 a9 aA) := hD
      refine lv_aload_n hx hb dX2_keepNumber_197 rfl (lv_at hl 0 rfl) ?_
      refine lv_bipush (v := iI (12)) hx hb dX2_keepNumber_198 (by decide) ?_
      refine va_put (D := D) (ci := 2) (v := .int (iI (12))) (ty := .int) (C := RX2) (T := TX2) (N := 13) hx hb hts (by decide +kernel) tyX2 tyX2_ok nmX2 hown hK hP hD hS 0 rfl rfl 6 (by decide) (hts (.fieldLink RX2 24 "BreakSetter$Reader" "state" "I") (by decide +kernel)) (fun _ h9 => h9) rfl (by decide +kernel) rfl rfl (Nat.le_of_ble_eq_true rfl) dX2_keepNumber_200 (fun H locs hP hD hS => ?_)
      have hP : va_P D vwCl (wRd q C fk tk ts te 12 ins po fr to nn ea ++ wTp q C len bs ++ wDr q C dp dw dl dn ds dk a0 a1 a2 a3 a4 a5 a6 a7 a8 a9 aA) H := hP
      have hD : va_D A (wRd q C fk tk ts te 12 ins po fr to nn ea ++ wTp q C len bs ++ wDr q C dp dw dl dn ds dk a0 a1 a2 a3 a4 a5 a6 a7 a8 a9 aA) := hD
      refine lv_goto (tgt := 241) hx hb dX2_keepNumber_203 rfl ?_
      exact hret H locs ls 241 (12, po, fr, to, nn, ea, dp, dw, dn, ds, dk, a0, a1, a2, a3, a4, a5, a6, a7, a8, a9, aA) dX2_keepNumber_241 ⟨up g (189 + 5 * g 3) nn, by rw [hsw]; rfl, DrP_up (st := 11) hd (by rw [prg_1 (by omega), prg_1 (by omega)]) (Or.inr (Or.inr (Or.inr (by omega)))) hbn (fun _ => by rw [up_n _ _ (by omega)]; exact hd.1 (by omega)) (fun _ => by rw [up_n _ _ (by omega)]; exact hd.2.1 (by omega))⟩ hP hD hS
    · skip
      refine j_swIn (k := 12) (off := 202) (tgt := 206) hx hb dX2_keepNumber_4 hsw (by decide) (by decide) rfl rfl ?_
      rw [hsw] at hM hd hlo hhi
      have hlo : fr ≤ nn := hlo
      have hhi : nn ≤ to := hhi
      have sp := hM.2.2.1
      have g2 := hM.1.2.2.2.1
      have hbn : 0 ≤ g 2 + prg 12 ∧ g 2 + prg 12 ≤ 8 ∧ 0 ≤ g 3 := ⟨sp.1, sp.2.1, sp.2.2.1⟩
      refine lv_aload_n hx hb dX2_keepNumber_206 rfl (lv_at hl 0 rfl) ?_
      refine lv_iload_n hx hb dX2_keepNumber_207 rfl (lv_at hl 1 rfl) ?_
      refine va_put (D := D) (ci := 2) (v := .int (iI (nn))) (ty := .int) (C := RX2) (T := TX2) (N := 13) hx hb hts (by decide +kernel) tyX2 tyX2_ok nmX2 hown hK hP hD hS 0 rfl rfl 12 (by decide) (hts (.fieldLink RX2 144 "BreakSetter$Reader" "early" "I") (by decide +kernel)) (fun _ h9 => h9) rfl (by decide +kernel) rfl rfl (Nat.le_of_ble_eq_true rfl) dX2_keepNumber_208 (fun H locs hP hD hS => ?_)
      have hP : va_P D vwCl (wRd q C fk tk ts te st ins po fr to ln nn ++ wTp q C len bs ++ wDr q C dp dw dl dn ds dk a0 a1 a2 a3 a4 a5 a6 a7 a8 a9 aA) H := hP
      have hD : va_D A (wRd q C fk tk ts te st ins po fr to ln nn ++ wTp q C len bs ++ wDr q C dp dw dl dn ds dk a0 a1 a2 a3 a4 a5 a6 a7 a8 a9 aA) := hD
      refine lv_aload_n hx hb dX2_keepNumber_211 rfl (lv_at hl 0 rfl) ?_
      refine lv_bipush (v := iI (13)) hx hb dX2_keepNumber_212 (by decide) ?_
      refine va_put (D := D) (ci := 2) (v := .int (iI (13))) (ty := .int) (C := RX2) (T := TX2) (N := 13) hx hb hts (by decide +kernel) tyX2 tyX2_ok nmX2 hown hK hP hD hS 0 rfl rfl 6 (by decide) (hts (.fieldLink RX2 24 "BreakSetter$Reader" "state" "I") (by decide +kernel)) (fun _ h9 => h9) rfl (by decide +kernel) rfl rfl (Nat.le_of_ble_eq_true rfl) dX2_keepNumber_214 (fun H locs hP hD hS => ?_)
      have hP : va_P D vwCl (wRd q C fk tk ts te 13 ins po fr to ln nn ++ wTp q C len bs ++ wDr q C dp dw dl dn ds dk a0 a1 a2 a3 a4 a5 a6 a7 a8 a9 aA) H := hP
      have hD : va_D A (wRd q C fk tk ts te 13 ins po fr to ln nn ++ wTp q C len bs ++ wDr q C dp dw dl dn ds dk a0 a1 a2 a3 a4 a5 a6 a7 a8 a9 aA) := hD
      refine lv_goto (tgt := 241) hx hb dX2_keepNumber_217 rfl ?_
      exact hret H locs ls 241 (13, po, fr, to, ln, nn, dp, dw, dn, ds, dk, a0, a1, a2, a3, a4, a5, a6, a7, a8, a9, aA) dX2_keepNumber_241 ⟨up g (190 + 5 * g 3) nn, by rw [hsw]; rfl, DrP_up (st := 12) hd (by rw [prg_1 (by omega), prg_1 (by omega)]) (Or.inr (Or.inr (Or.inr (by omega)))) hbn (fun _ => by rw [up_n _ _ (by omega)]; exact hd.1 (by omega)) (fun _ => by rw [up_n _ _ (by omega)]; exact hd.2.1 (by omega))⟩ hP hD hS
  · skip
    refine j_swOut (tgt := 220) hx hb dX2_keepNumber_4 ⟨by omega, by omega⟩ (by omega) rfl ?_
    have h13 : st = 13 := by omega
    rw [h13] at hM hd hlo hhi
    have hlo : ea ≤ nn := hlo
    have hhi : nn ≤ to - ln + 1 := hhi
    have f13 := MI_in13 hM
    have j13 := MI_in hM (Or.inr (by omega))
    have j3 := MI_in3 hM (by omega)
    have e3 : ds = g 2 + 1 := by have := hd.2.2.1.1; rw [prg_1 (by omega)] at this; exact this
    have e4 : dk = g 3 := hd.2.2.1.2
    have e5 : a5 (ds - 1) = g (151 + 5 * g 2) := by rw [show ds - 1 = g 2 by omega]; exact (hd.2.2.2.2.2.1 (g 2) (by omega) (by rw [prg_1 (by omega)]; omega)).2.2.2.1
    refine lv_aload_n hx hb dX2_keepNumber_220 rfl (lv_at hl 0 rfl) ?_
    refine va_get (D := D) (ci := 2) (v := .ref (q 4)) (C := RX2) (T := TX2) (N := 13) hx hb hts (by decide +kernel) hown hK hP 0 rfl rfl 1 (by decide) (hts (.fieldLink RX2 15 "BreakSetter$Reader" "draft" "LBreakSetter$Plan;") (by decide +kernel)) (fun _ h9 => h9) rfl dX2_keepNumber_221 ?_
    refine lv_aload_n hx hb dX2_keepNumber_224 rfl (lv_at hl 0 rfl) ?_
    refine va_get (D := D) (ci := 2) (v := .int (iI (ln))) (C := RX2) (T := TX2) (N := 13) hx hb hts (by decide +kernel) hown hK hP 0 rfl rfl 11 (by decide) (hts (.fieldLink RX2 152 "BreakSetter$Reader" "length" "I") (by decide +kernel)) (fun _ h9 => h9) rfl dX2_keepNumber_225 ?_
    refine lv_aload_n hx hb dX2_keepNumber_228 rfl (lv_at hl 0 rfl) ?_
    refine va_get (D := D) (ci := 2) (v := .int (iI (ea))) (C := RX2) (T := TX2) (N := 13) hx hb hts (by decide +kernel) hown hK hP 0 rfl rfl 12 (by decide) (hts (.fieldLink RX2 144 "BreakSetter$Reader" "early" "I") (by decide +kernel)) (fun _ h9 => h9) rfl dX2_keepNumber_229 ?_
    refine lv_iload_n hx hb dX2_keepNumber_232 rfl (lv_at hl 1 rfl) ?_
    refine CV_callVp (As := [.int (iI (ln)), .int (iI (ea)), .int (iI (nn))]) (rest := []) (wn := fun _ => wRd q C fk tk ts te st ins po fr to ln ea ++ wTp q C len bs ++ wDr q C dp dw dl dn ds (dk + 1) a0 a1 a2 a3 a4 (up a5 (ds - 1) (a5 (ds - 1) + 1)) a6 (up a7 dk (ds - 1)) (up a8 dk ln) (up a9 dk ea) (up aA dk nn)) ⟨hx, hb, hml, hown, hts⟩ (c_X1_addPause ⟨by omega, by omega⟩ ⟨by omega, by omega⟩ ⟨by omega, by omega⟩) (cwV 3 hts gX2_keepNumber_X1_addPause rfl rfl rfl (by decide +kernel) ⟨Nat.le_of_ble_eq_true rfl, Nat.le_of_ble_eq_true rfl⟩) (q0 := 0) rfl rfl rfl hK hNW hP hD hS hA (List.perm_append_comm (l₁ := wRd q C fk tk ts te st ins po fr to ln ea ++ wTp q C len bs) (l₂ := wDr q C dp dw dl dn ds dk a0 a1 a2 a3 a4 a5 a6 a7 a8 a9 aA)) (fun _ => List.perm_append_comm) rfl hl.1 rfl (Nat.le_of_ble_eq_true rfl) dX2_keepNumber_233 ⟨Nat.zero_le _, Nat.zero_le _⟩ (fun u9 H locs hw9 hP hD hS => ?_)
    have hP : va_P D vwCl (wRd q C fk tk ts te st ins po fr to ln ea ++ wTp q C len bs ++ wDr q C dp dw dl dn ds (dk + 1) a0 a1 a2 a3 a4 (up a5 (ds - 1) (a5 (ds - 1) + 1)) a6 (up a7 dk (ds - 1)) (up a8 dk ln) (up a9 dk ea) (up aA dk nn)) H := hP
    have hD : va_D A (wRd q C fk tk ts te st ins po fr to ln ea ++ wTp q C len bs ++ wDr q C dp dw dl dn ds (dk + 1) a0 a1 a2 a3 a4 (up a5 (ds - 1) (a5 (ds - 1) + 1)) a6 (up a7 dk (ds - 1)) (up a8 dk ln) (up a9 dk ea) (up aA dk nn)) := hD
    refine lv_aload_n hx hb dX2_keepNumber_236 rfl (lv_at hl 0 rfl) ?_
    refine lv_iconst (v := iI (3)) hx hb dX2_keepNumber_237 rfl ?_
    refine va_put (D := D) (ci := 2) (v := .int (iI (3))) (ty := .int) (C := RX2) (T := TX2) (N := 13) hx hb hts (by decide +kernel) tyX2 tyX2_ok nmX2 hown hK hP hD hS 0 rfl rfl 6 (by decide) (hts (.fieldLink RX2 24 "BreakSetter$Reader" "state" "I") (by decide +kernel)) (fun _ h9 => h9) rfl (by decide +kernel) rfl rfl (Nat.le_of_ble_eq_true rfl) dX2_keepNumber_238 (fun H locs hP hD hS => ?_)
    have hP : va_P D vwCl (wRd q C fk tk ts te 3 ins po fr to ln ea ++ wTp q C len bs ++ wDr q C dp dw dl dn ds (dk + 1) a0 a1 a2 a3 a4 (up a5 (ds - 1) (a5 (ds - 1) + 1)) a6 (up a7 dk (ds - 1)) (up a8 dk ln) (up a9 dk ea) (up aA dk nn)) H := hP
    have hD : va_D A (wRd q C fk tk ts te 3 ins po fr to ln ea ++ wTp q C len bs ++ wDr q C dp dw dl dn ds (dk + 1) a0 a1 a2 a3 a4 (up a5 (ds - 1) (a5 (ds - 1) + 1)) a6 (up a7 dk (ds - 1)) (up a8 dk ln) (up a9 dk ea) (up aA dk nn)) := hD
    exact hret H locs ls 241 (3, po, fr, to, ln, ea, dp, dw, dn, ds, dk + 1, a0, a1, a2, a3, a4, up a5 (ds - 1) (a5 (ds - 1) + 1), a6, up a7 dk (ds - 1), up a8 dk ln, up a9 dk ea, up aA dk nn) dX2_keepNumber_241 ⟨_, by rw [h13]; rfl, DrP_13 hd ⟨by omega, by omega, by omega, by omega⟩ f13.1 f13.2.2.2⟩ hP hD hS

set_option maxHeartbeats 4000000 in
set_option maxRecDepth 100000 in
theorem c_X2_acceptNumber {l : Launch} {D : va_G} {C : Nat → ClassId} {q : Nat → Nat} {fk tk ts te st ins po fr to ln ea len : Int} {bs : Int → Int} {dp dw dl dn ds dk : Int} {a0 a1 a2 a3 a4 a5 a6 a7 a8 a9 aA : Int → Int} (hlen : 0 ≤ len ∧ len ≤ 640) (hbs : ∀ k : Int, 0 ≤ k → k < 640 → 0 ≤ bs k ∧ bs k < 256) {g : Int → Int} (hM : MI (st, ins, po, fr, to, ln, ea, dn, dl, g)) (hd : DrP g st dp dw ds dk a0 a1 a2 a3 a4 a5 a6 a7 a8 a9 aA) {nn : Int} (hnn : 0 ≤ nn ∧ nn ≤ 99) : CI (S := Int × Int × Int × Int × Int × Int × Int × Int × Int × Int × Int × (Int → Int) × (Int → Int) × (Int → Int) × (Int → Int) × (Int → Int) × (Int → Int) × (Int → Int) × (Int → Int) × (Int → Int) × (Int → Int) × (Int → Int)) l yX2_acceptNumber wsX2_acceptNumber 3 69 D C [.ref (q 3), .int (iI (nn))] (wRd q C fk tk ts te st ins po fr to ln ea ++ wTp q C len bs ++ wDr q C dp dw dl dn ds dk a0 a1 a2 a3 a4 a5 a6 a7 a8 a9 aA) (fun u => wRd q C fk tk ts te (u.1) ins (u.2.1) (u.2.2.1) (u.2.2.2.1) (u.2.2.2.2.1) (u.2.2.2.2.2.1) ++ wTp q C len bs ++ wDr q C (u.2.2.2.2.2.2.1) (u.2.2.2.2.2.2.2.1) dl (u.2.2.2.2.2.2.2.2.1) (u.2.2.2.2.2.2.2.2.2.1) (u.2.2.2.2.2.2.2.2.2.2.1) (u.2.2.2.2.2.2.2.2.2.2.2.1) (u.2.2.2.2.2.2.2.2.2.2.2.2.1) (u.2.2.2.2.2.2.2.2.2.2.2.2.2.1) (u.2.2.2.2.2.2.2.2.2.2.2.2.2.2.1) (u.2.2.2.2.2.2.2.2.2.2.2.2.2.2.2.1) (u.2.2.2.2.2.2.2.2.2.2.2.2.2.2.2.2.1) (u.2.2.2.2.2.2.2.2.2.2.2.2.2.2.2.2.2.1) (u.2.2.2.2.2.2.2.2.2.2.2.2.2.2.2.2.2.2.1) (u.2.2.2.2.2.2.2.2.2.2.2.2.2.2.2.2.2.2.2.1) (u.2.2.2.2.2.2.2.2.2.2.2.2.2.2.2.2.2.2.2.2.1) (u.2.2.2.2.2.2.2.2.2.2.2.2.2.2.2.2.2.2.2.2.2)) (fun r u => ∃ z : Int, r = iI z ∧ ((¬ z = 0 ∧ nuS nn (st, ins, po, fr, to, ln, ea, dn, dl, g) = .inl z) ∨ (z = 0 ∧ ∃ g' : Int → Int, nuS nn (st, ins, po, fr, to, ln, ea, dn, dl, g) = .inr (u.1, ins, u.2.1, u.2.2.1, u.2.2.2.1, u.2.2.2.2.1, u.2.2.2.2.2.1, u.2.2.2.2.2.2.2.2.1, dl, g') ∧ DrP g' (u.1) (u.2.2.2.2.2.2.1) (u.2.2.2.2.2.2.2.1) (u.2.2.2.2.2.2.2.2.2.1) (u.2.2.2.2.2.2.2.2.2.2.1) (u.2.2.2.2.2.2.2.2.2.2.2.1) (u.2.2.2.2.2.2.2.2.2.2.2.2.1) (u.2.2.2.2.2.2.2.2.2.2.2.2.2.1) (u.2.2.2.2.2.2.2.2.2.2.2.2.2.2.1) (u.2.2.2.2.2.2.2.2.2.2.2.2.2.2.2.1) (u.2.2.2.2.2.2.2.2.2.2.2.2.2.2.2.2.1) (u.2.2.2.2.2.2.2.2.2.2.2.2.2.2.2.2.2.1) (u.2.2.2.2.2.2.2.2.2.2.2.2.2.2.2.2.2.2.1) (u.2.2.2.2.2.2.2.2.2.2.2.2.2.2.2.2.2.2.2.1) (u.2.2.2.2.2.2.2.2.2.2.2.2.2.2.2.2.2.2.2.2.1) (u.2.2.2.2.2.2.2.2.2.2.2.2.2.2.2.2.2.2.2.2.2)))) := by
  refine CI_of (cc := cX2_acceptNumber) (maxL := 2) (by decide) rfl (Nat.le_of_ble_eq_true rfl) ?_
  intro p e s m below meth c A Q ls hx hb hml hown hts hK hNW hA hl hP hD hS hret
  have hl : lv_has ls 2 [(0, .ref (q 3)), (1, .int (iI (nn)))] := hl
  have hs0 := hM.1.1
  refine lv_aload_n hx hb dX2_acceptNumber_0 rfl (lv_at hl 0 rfl) ?_
  refine va_get (D := D) (ci := 2) (v := .int (iI (st))) (C := RX2) (T := TX2) (N := 13) hx hb hts (by decide +kernel) hown hK hP 0 rfl rfl 6 (by decide) (hts (.fieldLink RX2 24 "BreakSetter$Reader" "state" "I") (by decide +kernel)) (fun _ h9 => h9) rfl dX2_acceptNumber_1 ?_
  refine lv_iconst (v := iI (5)) hx hb dX2_acceptNumber_4 rfl ?_
  refine j_icmp_ge (tgt := 10) hx hb dX2_acceptNumber_5 rfl ⟨by omega, by omega⟩ ⟨by decide, by decide⟩ (fun c5 => ?_) (fun c5 => ?_)
  · skip
    have lr := MI_lo hM c5
    have el : loR st fr ea = loS (st, ins, po, fr, to, ln, ea, dn, dl, g) := rfl
    have eh : hiR st to ln dp = hiS (st, ins, po, fr, to, ln, ea, dn, dl, g) := hiR_S (fun z => hd.1 (by omega))
    refine lv_iload_n hx hb dX2_acceptNumber_10 rfl (lv_at hl 1 rfl) ?_
    refine lv_aload_n hx hb dX2_acceptNumber_11 rfl (lv_at hl 0 rfl) ?_
    refine CR_callV (As := []) (rest := [.int (iI (nn))]) ⟨hx, hb, hml, hown, hts⟩ (c_X2_lowestNumber ⟨0, rfl⟩ ⟨⟨1, rfl⟩, ⟨2, rfl⟩⟩ hlen hbs hs0) (cwV 0 hts gX2_acceptNumber_X2_lowestNumber rfl rfl rfl (by decide +kernel) ⟨Nat.le_of_ble_eq_true rfl, Nat.le_of_ble_eq_true rfl⟩) (q0 := 0) rfl rfl rfl hK hNW hP rfl hl.1 rfl (Nat.le_of_ble_eq_true rfl) dX2_acceptNumber_12 ⟨Nat.zero_le _, Nat.zero_le _⟩ ?_
    refine j_icmp_lt (tgt := 26) hx hb dX2_acceptNumber_15 rfl ⟨by omega, by omega⟩ ⟨by omega, by omega⟩ (fun c15 => ?_) (fun c15 => ?_)
    · skip
      refine lv_iconst (v := iI (2)) hx hb dX2_acceptNumber_26 rfl ?_
      exact hret s.heap [] ls 27 _ (st, po, fr, to, ln, ea, dp, dw, dn, ds, dk, a0, a1, a2, a3, a4, a5, a6, a7, a8, a9, aA) dX2_acceptNumber_27 ⟨2, rfl, Or.inl ⟨by decide, nu_2 c5 (by omega)⟩⟩ hP hD hS
    · skip
      refine lv_iload_n hx hb dX2_acceptNumber_18 rfl (lv_at hl 1 rfl) ?_
      refine lv_aload_n hx hb dX2_acceptNumber_19 rfl (lv_at hl 0 rfl) ?_
      refine CR_callV (As := []) (rest := [.int (iI (nn))]) ⟨hx, hb, hml, hown, hts⟩ (c_X2_highestNumber ⟨0, rfl⟩ ⟨⟨1, rfl⟩, ⟨2, rfl⟩⟩ hlen hbs hs0 ⟨3, _, rfl, rfl⟩) (cwV 0 hts gX2_acceptNumber_X2_highestNumber rfl rfl rfl (by decide +kernel) ⟨Nat.le_of_ble_eq_true rfl, Nat.le_of_ble_eq_true rfl⟩) (q0 := 0) rfl rfl rfl hK hNW hP rfl hl.1 rfl (Nat.le_of_ble_eq_true rfl) dX2_acceptNumber_20 ⟨Nat.zero_le _, Nat.zero_le _⟩ ?_
      refine j_icmp_le (tgt := 28) hx hb dX2_acceptNumber_23 rfl ⟨by omega, by omega⟩ ⟨by omega, by omega⟩ (fun c23 => ?_) (fun c23 => ?_)
      · skip
        refine lv_aload_n hx hb dX2_acceptNumber_28 rfl (lv_at hl 0 rfl) ?_
        refine lv_iload_n hx hb dX2_acceptNumber_29 rfl (lv_at hl 1 rfl) ?_
        refine CV_callV0 (As := [.int (iI (nn))]) (rest := []) ⟨hx, hb, hml, hown, hts⟩ (c_X2_keepNumber hM hd c5 (by omega) (by omega)) (cwV 1 hts gX2_acceptNumber_X2_keepNumber rfl rfl rfl (by decide +kernel) ⟨Nat.le_of_ble_eq_true rfl, Nat.le_of_ble_eq_true rfl⟩) (q0 := 0) rfl rfl rfl hK hNW hP hD hS hA rfl hl.1 rfl (Nat.le_of_ble_eq_true rfl) dX2_acceptNumber_30 ⟨Nat.zero_le _, Nat.zero_le _⟩ (fun ⟨k_st, k_po, k_fr, k_to, k_ln, k_ea, k_dp, k_dw, k_dn, k_ds, k_dk, k_a0, k_a1, k_a2, k_a3, k_a4, k_a5, k_a6, k_a7, k_a8, k_a9, k_aA⟩ H locs hw9 hP hD hS => ?_)
        have hP : va_P D vwCl (wRd q C fk tk ts te k_st ins k_po k_fr k_to k_ln k_ea ++ wTp q C len bs ++ wDr q C k_dp k_dw dl k_dn k_ds k_dk k_a0 k_a1 k_a2 k_a3 k_a4 k_a5 k_a6 k_a7 k_a8 k_a9 k_aA) H := hP
        have hD : va_D A (wRd q C fk tk ts te k_st ins k_po k_fr k_to k_ln k_ea ++ wTp q C len bs ++ wDr q C k_dp k_dw dl k_dn k_ds k_dk k_a0 k_a1 k_a2 k_a3 k_a4 k_a5 k_a6 k_a7 k_a8 k_a9 k_aA) := hD
        obtain ⟨g9, hk9, hd9⟩ := hw9
        have hk9 : kpS nn (st, ins, po, fr, to, ln, ea, dn, dl, g) = (k_st, ins, k_po, k_fr, k_to, k_ln, k_ea, k_dn, dl, g9) := hk9
        have hd9 : DrP g9 k_st k_dp k_dw k_ds k_dk k_a0 k_a1 k_a2 k_a3 k_a4 k_a5 k_a6 k_a7 k_a8 k_a9 k_aA := hd9
        refine lv_iconst (v := iI (0)) hx hb dX2_acceptNumber_33 rfl ?_
        exact hret H locs ls 34 _ (k_st, k_po, k_fr, k_to, k_ln, k_ea, k_dp, k_dw, k_dn, k_ds, k_dk, k_a0, k_a1, k_a2, k_a3, k_a4, k_a5, k_a6, k_a7, k_a8, k_a9, k_aA) dX2_acceptNumber_34 ⟨0, rfl, Or.inr ⟨rfl, g9, by rw [nu_3 c5 (by omega), hk9], hd9⟩⟩ hP hD hS
      · skip
        refine lv_iconst (v := iI (2)) hx hb dX2_acceptNumber_26 rfl ?_
        exact hret s.heap [] ls 27 _ (st, po, fr, to, ln, ea, dp, dw, dn, ds, dk, a0, a1, a2, a3, a4, a5, a6, a7, a8, a9, aA) dX2_acceptNumber_27 ⟨2, rfl, Or.inl ⟨by decide, nu_2 c5 (by omega)⟩⟩ hP hD hS
  · skip
    refine lv_iconst (v := iI (1)) hx hb dX2_acceptNumber_8 rfl ?_
    exact hret s.heap [] ls 9 _ (st, po, fr, to, ln, ea, dp, dw, dn, ds, dk, a0, a1, a2, a3, a4, a5, a6, a7, a8, a9, aA) dX2_acceptNumber_9 ⟨1, rfl, Or.inl ⟨by decide, nu_no (by omega)⟩⟩ hP hD hS

set_option maxHeartbeats 4000000 in
set_option maxRecDepth 100000 in
theorem c_X2_acceptToken {K V : Nat → Nat} {l : Launch} {D : va_G} {C : Nat → ClassId} {q : Nat → Nat} {fk tk ts te st ins po fr to ln ea len : Int} {bs : Int → Int} {dp dw dl dn ds dk : Int} {a0 a1 a2 a3 a4 a5 a6 a7 a8 a9 aA : Int → Int} (hlen : 0 ≤ len ∧ len ≤ 640) (hbs : ∀ k : Int, 0 ≤ k → k < 640 → 0 ≤ bs k ∧ bs k < 256) {g : Int → Int} (hM : MI (st, ins, po, fr, to, ln, ea, dn, dl, g)) (hd : DrP g st dp dw ds dk a0 a1 a2 a3 a4 a5 a6 a7 a8 a9 aA) (htk : tk = tkK bs len ts) (hte : te = tkE bs len ts) (ht : 0 ≤ ts ∧ ts < len) : CIX K V (S := Int × Int × Int × Int × Int × Int × Int × Int × Int × Int × Int × Int × Int × (Int → Int) × (Int → Int) × (Int → Int) × (Int → Int) × (Int → Int) × (Int → Int) × (Int → Int) × (Int → Int) × (Int → Int) × (Int → Int) × (Int → Int)) l yX2_acceptToken wsX2_acceptToken 6 127 D C [.ref (q 3)] (wRd q C fk tk ts te st ins po fr to ln ea ++ wTp q C len bs ++ wDr q C dp dw dl dn ds dk a0 a1 a2 a3 a4 a5 a6 a7 a8 a9 aA) (fun u => wRd q C fk tk ts te (u.1) (u.2.1) (u.2.2.1) (u.2.2.2.1) (u.2.2.2.2.1) (u.2.2.2.2.2.1) (u.2.2.2.2.2.2.1) ++ wTp q C len bs ++ wDr q C (u.2.2.2.2.2.2.2.1) (u.2.2.2.2.2.2.2.2.1) (u.2.2.2.2.2.2.2.2.2.1) (u.2.2.2.2.2.2.2.2.2.2.1) (u.2.2.2.2.2.2.2.2.2.2.2.1) (u.2.2.2.2.2.2.2.2.2.2.2.2.1) (u.2.2.2.2.2.2.2.2.2.2.2.2.2.1) (u.2.2.2.2.2.2.2.2.2.2.2.2.2.2.1) (u.2.2.2.2.2.2.2.2.2.2.2.2.2.2.2.1) (u.2.2.2.2.2.2.2.2.2.2.2.2.2.2.2.2.1) (u.2.2.2.2.2.2.2.2.2.2.2.2.2.2.2.2.2.1) (u.2.2.2.2.2.2.2.2.2.2.2.2.2.2.2.2.2.2.1) (u.2.2.2.2.2.2.2.2.2.2.2.2.2.2.2.2.2.2.2.1) (u.2.2.2.2.2.2.2.2.2.2.2.2.2.2.2.2.2.2.2.2.1) (u.2.2.2.2.2.2.2.2.2.2.2.2.2.2.2.2.2.2.2.2.2.1) (u.2.2.2.2.2.2.2.2.2.2.2.2.2.2.2.2.2.2.2.2.2.2.1) (u.2.2.2.2.2.2.2.2.2.2.2.2.2.2.2.2.2.2.2.2.2.2.2)) (fun r u => ∃ z : Int, r = iI z ∧ ((¬ z = 0 ∧ stp bs len ts (st, ins, po, fr, to, ln, ea, dn, dl, g) = .inl z) ∨ (z = 0 ∧ ∃ g' : Int → Int, stp bs len ts (st, ins, po, fr, to, ln, ea, dn, dl, g) = .inr (u.1, u.2.1, u.2.2.1, u.2.2.2.1, u.2.2.2.2.1, u.2.2.2.2.2.1, u.2.2.2.2.2.2.1, u.2.2.2.2.2.2.2.2.2.2.1, u.2.2.2.2.2.2.2.2.2.1, g') ∧ DrP g' (u.1) (u.2.2.2.2.2.2.2.1) (u.2.2.2.2.2.2.2.2.1) (u.2.2.2.2.2.2.2.2.2.2.2.1) (u.2.2.2.2.2.2.2.2.2.2.2.2.1) (u.2.2.2.2.2.2.2.2.2.2.2.2.2.1) (u.2.2.2.2.2.2.2.2.2.2.2.2.2.2.1) (u.2.2.2.2.2.2.2.2.2.2.2.2.2.2.2.1) (u.2.2.2.2.2.2.2.2.2.2.2.2.2.2.2.2.1) (u.2.2.2.2.2.2.2.2.2.2.2.2.2.2.2.2.2.1) (u.2.2.2.2.2.2.2.2.2.2.2.2.2.2.2.2.2.2.1) (u.2.2.2.2.2.2.2.2.2.2.2.2.2.2.2.2.2.2.2.1) (u.2.2.2.2.2.2.2.2.2.2.2.2.2.2.2.2.2.2.2.2.1) (u.2.2.2.2.2.2.2.2.2.2.2.2.2.2.2.2.2.2.2.2.2.1) (u.2.2.2.2.2.2.2.2.2.2.2.2.2.2.2.2.2.2.2.2.2.2.1) (u.2.2.2.2.2.2.2.2.2.2.2.2.2.2.2.2.2.2.2.2.2.2.2)))) := by
  refine CIX_of (cc := cX2_acceptToken) (maxL := 1) (by decide) rfl (Nat.le_of_ble_eq_true rfl) ?_
  intro p e s m below meth c A Q ls hx hb hml hown hts hK hNW hX hA hl hP hD hS hret
  have hl : lv_has ls 1 [(0, .ref (q 3))] := hl
  have kr := tkK_rng bs len ts
  have tr := tkE_r (b := bs) (n := len) (s := ts) ht.2
  refine lv_aload_n hx hb dX2_acceptToken_0 rfl (lv_at hl 0 rfl) ?_
  refine va_get (D := D) (ci := 2) (v := .int (iI (tk))) (C := RX2) (T := TX2) (N := 13) hx hb hts (by decide +kernel) hown hK hP 0 rfl rfl 3 (by decide) (hts (.fieldLink RX2 40 "BreakSetter$Reader" "tokenKind" "I") (by decide +kernel)) (fun _ h9 => h9) rfl dX2_acceptToken_1 ?_
  by_cases hsw : 1 ≤ tk ∧ tk ≤ 3
  · skip
    obtain ⟨hsw1, hsw2⟩ := hsw
    rcases (show tk = 1 ∨ tk = 2 ∨ tk = 3 by omega) with hsw | hsw | hsw
    · skip
      refine j_swIn (k := 1) (off := 28) (tgt := 32) hx hb dX2_acceptToken_4 hsw (by decide) (by decide) rfl rfl ?_
      refine lv_aload_n hx hb dX2_acceptToken_32 rfl (lv_at hl 0 rfl) ?_
      refine CIX_callV0 (As := []) (rest := []) ⟨hx, hb, hml, hown, hts⟩ (c_X2_acceptWord hlen hbs hM hd ⟨by omega, by omega, by omega⟩) (cwV 0 hts gX2_acceptToken_X2_acceptWord rfl rfl rfl (by decide +kernel) ⟨Nat.le_of_ble_eq_true rfl, Nat.le_of_ble_eq_true rfl⟩) (q0 := 0) rfl rfl rfl hK hNW hX hP hD hS hA rfl hl.1 rfl (Nat.le_of_ble_eq_true rfl) dX2_acceptToken_33 ⟨Nat.zero_le _, Nat.zero_le _⟩ (fun r ⟨st9, ins9⟩ H locs hw9 hP hD hS => ?_)
      obtain ⟨z9, hr9, hw9⟩ := hw9
      subst hr9
      have hz9 : (¬ z9 = 0 ∧ wdS (wid bs ts te) (st, ins, po, fr, to, ln, ea, dn, dl, g) = .inl z9) ∨ (z9 = 0 ∧ wdS (wid bs ts te) (st, ins, po, fr, to, ln, ea, dn, dl, g) = .inr (st9, ins9, po, fr, to, ln, ea, dn, dl, g) ∧ DrP g st9 dp dw ds dk a0 a1 a2 a3 a4 a5 a6 a7 a8 a9 aA) := hw9
      have hP : va_P D vwCl (wRd q C fk tk ts te st9 ins9 po fr to ln ea ++ wTp q C len bs ++ wDr q C dp dw dl dn ds dk a0 a1 a2 a3 a4 a5 a6 a7 a8 a9 aA) H := hP
      have hD : va_D A (wRd q C fk tk ts te st9 ins9 po fr to ln ea ++ wTp q C len bs ++ wDr q C dp dw dl dn ds dk a0 a1 a2 a3 a4 a5 a6 a7 a8 a9 aA) := hD
      exact hret H locs ls 36 _ (st9, ins9, po, fr, to, ln, ea, dp, dw, dl, dn, ds, dk, a0, a1, a2, a3, a4, a5, a6, a7, a8, a9, aA) dX2_acceptToken_36 ⟨z9, rfl, by rw [stp_1 (by omega), ← hte]; exact hz9.elim (fun z => Or.inl z) (fun z => Or.inr ⟨z.1, g, z.2.1, z.2.2⟩)⟩ hP hD hS
    · skip
      refine j_swIn (k := 2) (off := 33) (tgt := 37) hx hb dX2_acceptToken_4 hsw (by decide) (by decide) rfl rfl ?_
      refine lv_aload_n hx hb dX2_acceptToken_37 rfl (lv_at hl 0 rfl) ?_
      refine lv_aload_n hx hb dX2_acceptToken_38 rfl (lv_at hl 0 rfl) ?_
      refine CR_callV (As := []) (rest := [.ref (q 3)]) ⟨hx, hb, hml, hown, hts⟩ (c_X2_numberOfToken ⟨0, rfl⟩ ⟨⟨1, rfl⟩, ⟨2, rfl⟩⟩ hlen hbs ⟨by omega, by omega, by omega⟩) (cwV 0 hts gX2_acceptToken_X2_numberOfToken rfl rfl rfl (by decide +kernel) ⟨Nat.le_of_ble_eq_true rfl, Nat.le_of_ble_eq_true rfl⟩) (q0 := 0) rfl rfl rfl hK hNW hP rfl hl.1 rfl (Nat.le_of_ble_eq_true rfl) dX2_acceptToken_39 ⟨Nat.zero_le _, Nat.zero_le _⟩ ?_
      have nr : 0 ≤ nmb bs ts te ∧ nmb bs ts te ≤ 99 := by rw [hte]; exact nm_tk ht.2 (by omega)
      refine CI_callV0 (As := [.int (iI (nmb bs ts te))]) (rest := []) ⟨hx, hb, hml, hown, hts⟩ (c_X2_acceptNumber hlen hbs hM hd nr) (cwV 1 hts gX2_acceptToken_X2_acceptNumber rfl rfl rfl (by decide +kernel) ⟨Nat.le_of_ble_eq_true rfl, Nat.le_of_ble_eq_true rfl⟩) (q0 := 0) rfl rfl rfl hK hNW hP hD hS hA rfl hl.1 rfl (Nat.le_of_ble_eq_true rfl) dX2_acceptToken_42 ⟨Nat.zero_le _, Nat.zero_le _⟩ (fun r ⟨k_st, k_po, k_fr, k_to, k_ln, k_ea, k_dp, k_dw, k_dn, k_ds, k_dk, k_a0, k_a1, k_a2, k_a3, k_a4, k_a5, k_a6, k_a7, k_a8, k_a9, k_aA⟩ H locs hw9 hP hD hS => ?_)
      obtain ⟨z9, hr9, hw9⟩ := hw9
      subst hr9
      have hz9 : (¬ z9 = 0 ∧ nuS (nmb bs ts te) (st, ins, po, fr, to, ln, ea, dn, dl, g) = .inl z9) ∨ (z9 = 0 ∧ ∃ g' : Int → Int, nuS (nmb bs ts te) (st, ins, po, fr, to, ln, ea, dn, dl, g) = .inr (k_st, ins, k_po, k_fr, k_to, k_ln, k_ea, k_dn, dl, g') ∧ DrP g' k_st k_dp k_dw k_ds k_dk k_a0 k_a1 k_a2 k_a3 k_a4 k_a5 k_a6 k_a7 k_a8 k_a9 k_aA) := hw9
      have hP : va_P D vwCl (wRd q C fk tk ts te k_st ins k_po k_fr k_to k_ln k_ea ++ wTp q C len bs ++ wDr q C k_dp k_dw dl k_dn k_ds k_dk k_a0 k_a1 k_a2 k_a3 k_a4 k_a5 k_a6 k_a7 k_a8 k_a9 k_aA) H := hP
      have hD : va_D A (wRd q C fk tk ts te k_st ins k_po k_fr k_to k_ln k_ea ++ wTp q C len bs ++ wDr q C k_dp k_dw dl k_dn k_ds k_dk k_a0 k_a1 k_a2 k_a3 k_a4 k_a5 k_a6 k_a7 k_a8 k_a9 k_aA) := hD
      exact hret H locs ls 45 _ (k_st, ins, k_po, k_fr, k_to, k_ln, k_ea, k_dp, k_dw, dl, k_dn, k_ds, k_dk, k_a0, k_a1, k_a2, k_a3, k_a4, k_a5, k_a6, k_a7, k_a8, k_a9, k_aA) dX2_acceptToken_45 ⟨z9, rfl, by rw [stp_2 (by omega), ← hte]; exact hz9⟩ hP hD hS
    · skip
      refine j_swIn (k := 3) (off := 42) (tgt := 46) hx hb dX2_acceptToken_4 hsw (by decide) (by decide) rfl rfl ?_
      refine lv_aload_n hx hb dX2_acceptToken_46 rfl (lv_at hl 0 rfl) ?_
      refine CI_callV0 (As := []) (rest := []) ⟨hx, hb, hml, hown, hts⟩ (c_X2_acceptSign hM hd) (cwV 0 hts gX2_acceptToken_X2_acceptSign rfl rfl rfl (by decide +kernel) ⟨Nat.le_of_ble_eq_true rfl, Nat.le_of_ble_eq_true rfl⟩) (q0 := 0) rfl rfl rfl hK hNW hP hD hS hA rfl hl.1 rfl (Nat.le_of_ble_eq_true rfl) dX2_acceptToken_47 ⟨Nat.zero_le _, Nat.zero_le _⟩ (fun r ⟨dl9, st9⟩ H locs hw9 hP hD hS => ?_)
      obtain ⟨z9, hr9, hw9⟩ := hw9
      subst hr9
      have hz9 : (¬ z9 = 0 ∧ siS (st, ins, po, fr, to, ln, ea, dn, dl, g) = .inl z9) ∨ (z9 = 0 ∧ ∃ g' : Int → Int, siS (st, ins, po, fr, to, ln, ea, dn, dl, g) = .inr (st9, ins, po, fr, to, ln, ea, dn, dl9, g') ∧ DrP g' st9 dp dw ds dk a0 a1 a2 a3 a4 a5 a6 a7 a8 a9 aA) := hw9
      have hP : va_P D vwCl (wRd q C fk tk ts te st9 ins po fr to ln ea ++ wTp q C len bs ++ wDr q C dp dw dl9 dn ds dk a0 a1 a2 a3 a4 a5 a6 a7 a8 a9 aA) H := hP
      have hD : va_D A (wRd q C fk tk ts te st9 ins po fr to ln ea ++ wTp q C len bs ++ wDr q C dp dw dl9 dn ds dk a0 a1 a2 a3 a4 a5 a6 a7 a8 a9 aA) := hD
      exact hret H locs ls 50 _ (st9, ins, po, fr, to, ln, ea, dp, dw, dl9, dn, ds, dk, a0, a1, a2, a3, a4, a5, a6, a7, a8, a9, aA) dX2_acceptToken_50 ⟨z9, rfl, by rw [stp_3 (by omega)]; exact hz9⟩ hP hD hS
  · skip
    refine j_swOut (tgt := 51) hx hb dX2_acceptToken_4 ⟨by omega, by omega⟩ (by omega) rfl ?_
    refine lv_iconst (v := iI (1)) hx hb dX2_acceptToken_51 rfl ?_
    exact hret s.heap [] ls 52 _ (st, ins, po, fr, to, ln, ea, dp, dw, dl, dn, ds, dk, a0, a1, a2, a3, a4, a5, a6, a7, a8, a9, aA) dX2_acceptToken_52 ⟨1, rfl, Or.inl ⟨by decide, stp_0 (by omega)⟩⟩ hP hD hS
