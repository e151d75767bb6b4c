section MIN
variable {q ins po fr to ln ea nds li m : Int} {g : Int → Int}
theorem MI_in (h : MI (q, ins, po, fr, to, ln, ea, nds, li, g)) (hq : q = 3 ∨ 11 ≤ q) : fr = g (149 + 5 * g 2) ∧ to = g (150 + 5 * g 2) ∧ g (152 + 5 * g 2) + g (151 + 5 * g 2) = g 3 ∧ (0 ≤ g 2 ∧ g 2 < 8) ∧ (0 ≤ g 3 ∧ g 3 ≤ 24) ∧ (0 ≤ fr ∧ fr ≤ to ∧ to < 48) ∧ (0 ≤ g (151 + 5 * g 2) ∧ g (151 + 5 * g 2) ≤ 3) ∧ ins = 1 ∧ (1 ≤ g 0 ∧ g 0 ≤ 3) := by
  obtain ⟨⟨m1, m2, m3, m4, m5, m6, m7, m8, m9, m10, m11, m12, m13, m14, m15, m16, m17, -⟩, hb, hs⟩ := h
  have z := m17 hq
  have i0 := m9 (by clear m5 m6 m7 m8 m9 m10 m11 m12 m13 m14 m15 m16 m17; omega)
  have z0 := m6 (by clear m5 m6 m7 m8 m9 m10 m11 m12 m13 m14 m15 m16 m17; omega)
  rw [prg_1 hq] at hs
  have s1 := hs.1
  clear m5 m6 m7 m8 m9 m10 m11 m12 m13 m14 m15 m16 m17
  have s2 := hs.2.1 (g 2) m4.1 (by omega)
  refine ⟨z.1, z.2.1, z.2.2, by omega, by omega, by omega, by omega, i0, z0⟩
theorem MI_in3 (h : MI (q, ins, po, fr, to, ln, ea, nds, li, g)) (hq : 11 ≤ q) : g 3 < 24 ∧ g (151 + 5 * g 2) < 3 := by
  have a := MI_in h (Or.inr hq)
  obtain ⟨⟨m1, m2, m3, m4, m5, m6, m7, m8, m9, m10, m11, m12, m13, m14, m15, m16, m17, m18, -⟩, hb, hs⟩ := h
  have z := m18 hq
  clear m5 m6 m7 m8 m9 m10 m11 m12 m13 m14 m15 m16 m17 m18
  rw [prg_1 (Or.inr hq)] at hs
  have s2 := hs.2.1 (g 2) m4.1 (by omega)
  omega
theorem MI_in13 (h : MI (13, ins, po, fr, to, ln, ea, nds, li, g)) : g (189 + 5 * g 3) = ln ∧ (1 ≤ ln ∧ ln ≤ 4) ∧ (fr ≤ ea ∧ ea ≤ to) ∧ g (190 + 5 * g 3) = ea := by
  obtain ⟨⟨m1, m2, m3, m4, m5, m6, m7, m8, m9, m10, m11, m12, m13, m14, m15, m16, m17, m18, m19, m20⟩, hb, hs⟩ := h
  have z := m19 (by omega)
  have y := m20 rfl
  exact ⟨z.2.2, ⟨z.1, z.2.1⟩, ⟨y.1, y.2.1⟩, y.2.2⟩
theorem wd_shift (hq : q = 1 ∨ q = 2) : wdS 3 (q, ins, po, fr, to, ln, ea, nds, li, g) = if 8 ≤ g 2 then .inl 3 else .inr (7, 1, po, fr, to, ln, ea, nds, li, g) := by
  show (if q = 0 ∧ (3 : Int) = 1 then _ else if q = 1 ∧ (3 : Int) = 2 then _ else if (q = 1 ∨ q = 2) ∧ (3 : Int) = 3 then _ else if q = 3 ∧ (3 : Int) = 4 then _ else _) = _
  rw [if_neg (by omega), if_neg (by omega), if_pos ⟨hq, rfl⟩]
end MIN
theorem finP_row {g f : Int → Int} {m x y : Int} (h2 : 0 ≤ g 2 ∧ g 2 < 8) (h3 : 0 ≤ g 3 ∧ g 3 < 24) (hf : f = up g (191 + 5 * g 3) m) (hx : x = 188 + 5 * g 3) (hy : y = 151 + 5 * g 2) : up (up (up f x (f 2)) y ((up f x (f 2)) y + 1)) 3 ((up (up f x (f 2)) y ((up f x (f 2)) y + 1)) 3 + 1) = finP g m := by
  have e2 : f 2 = g 2 := by rw [hf]; exact up_n _ _ (by omega)
  have ey : up f x (f 2) y = g (151 + 5 * g 2) := by rw [up_n _ _ (by omega), hf, up_n _ _ (by omega), hy]
  have e3 : up (up f x (f 2)) y (up f x (f 2) y + 1) 3 = g 3 := by rw [up_n _ _ (by omega), up_n _ _ (by omega), hf, up_n _ _ (by omega)]
  rw [e3, ey, e2, hx, hy, hf]
  rfl
set_option maxHeartbeats 4000000 in
set_option maxRecDepth 100000 in
theorem c_X7_readPause {l : Launch} {D : va_G} {C : Nat → ClassId} {q : Nat → Nat} {th ta fa sm : Int} {tape now snaps : Int → Int} {wz zz zt zf zs zn zh zg zk zl : Int} {rd : Int → Int} {sa : Nat → Int → Int} (hb9 : ∀ k : Int, 0 ≤ k → k < 640 → 0 ≤ tape k ∧ tape k < 256) (hz : 0 ≤ zz ∧ zz ≤ 640) {e0 : Int} (hLA : LA tape zz e0 zt zf zs zn wz) {spo sfr sto sln sea sli : Int} (hM : MI (3, 1, spo, sfr, sto, sln, sea, zk, sli, rd)) (hwd : zs = 2 ∧ wz = 8538566) {kk : Int} (hk : kk = 148 + 5 * rd 2) : CI (S := Int × Int × Int × Int × Int × Int × Int × Int × (Int → Int)) l yX7_readPause wsX7_readPause 4 90 D C [.ref (q 36), .int (iI (kk))] (wT q C th ta fa sm tape now snaps wz zz zt zf zs zn zh zg zk zl rd sa) (fun u => wT q C th ta (u.2.2.2.2.2.2.1) sm tape now snaps (u.2.2.2.2.1) zz (u.1) (u.2.1) (u.2.2.1) (u.2.2.2.1) (u.2.2.2.2.2.2.2.1) (u.2.2.2.2.2.1) zk zl (u.2.2.2.2.2.2.2.2) sa) (fun r u => ∃ z : Int, r = iI z ∧ RN tape zz (3, 1, spo, sfr, sto, sln, sea, zk, sli, rd) e0 fa z (u.1) (u.2.1) (u.2.2.1) (u.2.2.2.1) (u.2.2.2.2.1) (u.2.2.2.2.2.2.1) (u.2.2.2.2.2.2.2.1) 3 1 zk sli (u.2.2.2.2.2.2.2.2) ∧ (z = 1 → u.2.2.2.2.2.2.2.2 2 = rd 2)) := by
  refine CZ_of (cc := cX7_readPause) (maxL := 3) (by decide) rfl (Nat.le_of_ble_eq_true rfl) ?_
  intro p e s m below meth c A Q ls hx hb hml hown hts hK hNW hA hl hP hD hS hret
  have hl : lv_has ls 3 [(0, .ref (q 36)), (1, .int (iI (kk)))] := hl
  have hq0 := LA_zs hLA
  have hi := MI_in hM (Or.inl rfl)
  have lw := LA_wd (w := 4) hLA hwd.1 (Or.inr (Or.inr (Or.inr ⟨rfl, hwd.2⟩))) (σ := (3, 1, spo, sfr, sto, sln, sea, zk, sli, rd))
  refine lv_aload_n hx hb dX7_readPause_0 rfl (lv_at hl 0 rfl) ?_
  refine va_get (D := D) (ci := 7) (v := .ref (q 39)) (C := RX7) (T := TX7) (N := 23) hx hb hts (by decide +kernel) hown hK hP 0 rfl rfl 12 (by decide) (hts (.fieldLink RX7 77 "BreakSetterModel" "read" "[I") (by decide +kernel)) (fun _ h9 => h9) rfl dX7_readPause_1 ?_
  refine lv_iload_n hx hb dX7_readPause_4 rfl (lv_at hl 1 rfl) ?_
  refine lv_iconst (v := iI (3)) hx hb dX7_readPause_5 rfl ?_
  refine j_iadd hx hb dX7_readPause_6 ?_
  refine j_iald hx hb hK hP 3 1 rfl rfl ⟨by omega, by omega⟩ (Nat.le_of_ble_eq_true rfl) dX7_readPause_7 ?_
  refine W_wen (y := iI (rd (151 + 5 * rd 2))) (congrArg iI (congrArg rd (by omega))) ?_
  refine lv_iconst (v := iI (3)) hx hb dX7_readPause_8 rfl ?_
  refine j_icmp_ne (tgt := 18) hx hb dX7_readPause_9 rfl ⟨by omega, by omega⟩ ⟨by decide, by decide⟩ (fun c9 => ?_) (fun c9 => ?_)
  · skip
    have w0 : runT tape zz (3, 1, spo, sfr, sto, sln, sea, zk, sli, rd) e0 = runT tape zz (11, 1, spo, sfr, sto, sln, sea, zk, sli, rd) zt := lw.2 _ (if_neg (show ¬ 3 ≤ rd (151 + 5 * rd 2) by omega))
    have m0 := (MI_3p hM (by omega)).2
    have h3 := MI_in3 m0 (by omega)
    have zr := LA_zt hLA (by omega)
    refine lv_aload_n hx hb dX7_readPause_18 rfl (lv_at hl 0 rfl) ?_
    refine CV_callV0 (As := []) (rest := []) ⟨hx, hb, hml, hown, hts⟩ (c_X7_go hb9 hz ⟨by omega, by omega⟩) (cwV 0 hts gX7_readPause_X7_go rfl rfl rfl (by decide +kernel) ⟨Nat.le_of_ble_eq_true rfl, Nat.le_of_ble_eq_true rfl⟩) (q0 := 0) rfl rfl rfl hK hNW hP hD hS hA rfl hl.1 rfl (Nat.le_of_ble_eq_true rfl) dX7_readPause_19 ⟨Nat.zero_le _, Nat.zero_le _⟩ (fun ⟨t19, f19, s19, n19, w19⟩ H locs hw9 hP hD hS => ?_)
    have hP : va_P D vwCl (wT q C th ta fa sm tape now snaps w19 zz t19 f19 s19 n19 zh zg zk zl rd sa) H := hP
    have hD : va_D A (wT q C th ta fa sm tape now snaps w19 zz t19 f19 s19 n19 zh zg zk zl rd sa) := hD
    have hLA19 : LA tape zz zt t19 f19 s19 n19 w19 := hw9
    have hq19 := LA_zs hLA19
    refine lv_sipush (v := iI (188)) hx hb dX7_readPause_22 (by decide) ?_
    refine lv_iconst (v := iI (5)) hx hb dX7_readPause_25 rfl ?_
    refine lv_aload_n hx hb dX7_readPause_26 rfl (lv_at hl 0 rfl) ?_
    refine va_get (D := D) (ci := 7) (v := .ref (q 39)) (C := RX7) (T := TX7) (N := 23) hx hb hts (by decide +kernel) hown hK hP 0 rfl rfl 12 (by decide) (hts (.fieldLink RX7 77 "BreakSetterModel" "read" "[I") (by decide +kernel)) (fun _ h9 => h9) rfl dX7_readPause_27 ?_
    refine lv_iconst (v := iI (3)) hx hb dX7_readPause_30 rfl ?_
    refine j_iald hx hb hK hP 3 1 rfl rfl ⟨by omega, by omega⟩ (Nat.le_of_ble_eq_true rfl) dX7_readPause_31 ?_
    refine j_imul hx hb dX7_readPause_32 ?_
    refine j_iadd hx hb dX7_readPause_33 ?_
    refine lv_istore_n (lv' := [(2, .int (iI (188 + (5 * (rd 3))))), (0, .ref (q 36)), (1, .int (iI (kk)))]) hx hb dX7_readPause_34 rfl hl (by decide) rfl (fun ls hl => ?_)
    refine lv_aload_n hx hb dX7_readPause_35 rfl (lv_at hl 1 rfl) ?_
    refine lv_iload_n hx hb dX7_readPause_36 rfl (lv_at hl 0 rfl) ?_
    refine lv_iconst (v := iI (1)) hx hb dX7_readPause_37 rfl ?_
    refine j_iadd hx hb dX7_readPause_38 ?_
    refine lv_iconst (v := iI (1)) hx hb dX7_readPause_39 rfl ?_
    refine lv_iconst (v := iI (4)) hx hb dX7_readPause_40 rfl ?_
    refine CI_callV0 (As := [.int (iI ((188 + (5 * (rd 3))) + 1)), .int (iI (1)), .int (iI (4))]) (rest := []) ⟨hx, hb, hml, hown, hts⟩ (c_X7_told (σ := (11, 1, spo, sfr, sto, sln, sea, zk, sli, rd)) hb9 hz hLA19 (show (5 : Int) ≤ 11 by decide) rfl rfl ⟨by decide, by decide⟩ ⟨by decide, by decide⟩ ⟨by omega, by omega⟩) (cwV 3 hts gX7_readPause_X7_told rfl rfl rfl (by decide +kernel) ⟨Nat.le_of_ble_eq_true rfl, Nat.le_of_ble_eq_true rfl⟩) (q0 := 0) rfl rfl rfl hK hNW hP hD hS hA rfl hl.1 rfl (Nat.le_of_ble_eq_true rfl) dX7_readPause_41 ⟨Nat.zero_le _, Nat.zero_le _⟩ (fun r ⟨t41, f41, s41, n41, w41, g41, fa41, zh41, r41⟩ H locs hw9 hP hD hS => ?_)
    obtain ⟨z41, hr9, hw9, hv9⟩ := hw9
    subst hr9
    have hz41 : TP tape zz (11, 1, spo, sfr, sto, sln, sea, zk, sli, rd) zt t19 n19 1 4 fa z41 t41 f41 s41 n41 w41 g41 fa41 zh41 := hw9
    have hv41 : z41 = 1 → r41 = up rd ((188 + (5 * (rd 3))) + 1) n19 := hv9
    have zb41 : z41 = 0 ∨ z41 = 1 := hz41.elim (fun z => Or.inl z.1) (fun z => Or.inr z.1)
    have hP : va_P D vwCl (wT q C th ta fa41 sm tape now snaps w41 zz t41 f41 s41 n41 zh41 g41 zk zl r41 sa) H := hP
    have hD : va_D A (wT q C th ta fa41 sm tape now snaps w41 zz t41 f41 s41 n41 zh41 g41 zk zl r41 sa) := hD
    refine j_if_eq (tgt := 110) hx hb dX7_readPause_44 rfl ⟨by omega, by omega⟩ (fun c44 => ?_) (fun c44 => ?_)
    · skip
      have no41 := (hz41.resolve_right (fun z => by have := z.1; omega)).2
      refine lv_iconst (v := iI (0)) hx hb dX7_readPause_110 rfl ?_
      exact hret H locs ls 111 _ (t41, f41, s41, n41, w41, g41, fa41, zh41, r41) dX7_readPause_111 (Or.inl rfl) ⟨0, rfl, Or.inl ⟨rfl, w0.trans no41⟩, fun z => by omega⟩ hP hD hS
    · skip
      have ok41 := (hz41.resolve_left (fun z => by have := z.1; omega)).2
      have e41 : r41 = up rd (189 + 5 * rd 3) n19 := by rw [hv41 (by omega)]; exact congrArg (fun z => up rd z n19) (by omega)
      have m1 := MI_11 m0 ok41.2.1 ok41.2.2.1
      rw [← e41] at m1
      have w1 : runT tape zz (3, 1, spo, sfr, sto, sln, sea, zk, sli, rd) e0 = runT tape zz (12, 1, spo, sfr, sto, n19, sea, zk, sli, r41) t19 := by rw [w0, e41]; exact ok41.2.2.2.2.2.2
      have q41 := LA_zs ok41.2.2.2.2.1
      have a2 : r41 2 = rd 2 := by rw [e41]; exact up_n _ _ (by omega)
      have a3 : r41 3 = rd 3 := by rw [e41]; exact up_n _ _ (by omega)
      have hi12 := MI_in m1 (Or.inr (by omega))
      have n19r : 1 ≤ n19 ∧ n19 ≤ 4 := ⟨ok41.2.1, ok41.2.2.1⟩
      refine lv_aload_n hx hb dX7_readPause_47 rfl (lv_at hl 1 rfl) ?_
      refine lv_iload_n hx hb dX7_readPause_48 rfl (lv_at hl 0 rfl) ?_
      refine lv_iconst (v := iI (2)) hx hb dX7_readPause_49 rfl ?_
      refine j_iadd hx hb dX7_readPause_50 ?_
      refine lv_aload_n hx hb dX7_readPause_51 rfl (lv_at hl 1 rfl) ?_
      refine va_get (D := D) (ci := 7) (v := .ref (q 39)) (C := RX7) (T := TX7) (N := 23) hx hb hts (by decide +kernel) hown hK hP 0 rfl rfl 12 (by decide) (hts (.fieldLink RX7 77 "BreakSetterModel" "read" "[I") (by decide +kernel)) (fun _ h9 => h9) rfl dX7_readPause_52 ?_
      refine lv_iload_n hx hb dX7_readPause_55 rfl (lv_at hl 2 rfl) ?_
      refine lv_iconst (v := iI (1)) hx hb dX7_readPause_56 rfl ?_
      refine j_iadd hx hb dX7_readPause_57 ?_
      refine j_iald hx hb hK hP 3 1 rfl rfl ⟨by omega, by omega⟩ (Nat.le_of_ble_eq_true rfl) dX7_readPause_58 ?_
      refine lv_aload_n hx hb dX7_readPause_59 rfl (lv_at hl 1 rfl) ?_
      refine va_get (D := D) (ci := 7) (v := .ref (q 39)) (C := RX7) (T := TX7) (N := 23) hx hb hts (by decide +kernel) hown hK hP 0 rfl rfl 12 (by decide) (hts (.fieldLink RX7 77 "BreakSetterModel" "read" "[I") (by decide +kernel)) (fun _ h9 => h9) rfl dX7_readPause_60 ?_
      refine lv_iload_n hx hb dX7_readPause_63 rfl (lv_at hl 2 rfl) ?_
      refine lv_iconst (v := iI (2)) hx hb dX7_readPause_64 rfl ?_
      refine j_iadd hx hb dX7_readPause_65 ?_
      refine j_iald hx hb hK hP 3 1 rfl rfl ⟨by omega, by omega⟩ (Nat.le_of_ble_eq_true rfl) dX7_readPause_66 ?_
      refine CI_callV0 (As := [.int (iI ((188 + (5 * (rd 3))) + 2)), .int (iI (r41 (kk + 1))), .int (iI (r41 (kk + 2)))]) (rest := []) ⟨hx, hb, hml, hown, hts⟩ (c_X7_told (σ := (12, 1, spo, sfr, sto, n19, sea, zk, sli, r41)) hb9 hz ok41.2.2.2.2.1 (show (5 : Int) ≤ 12 by decide) (by show sfr = r41 (kk + 1); rw [hi12.1]; exact congrArg r41 (by omega)) (by show sto = r41 (kk + 2); rw [hi12.2.1]; exact congrArg r41 (by omega)) (by rw [← show sfr = r41 (kk + 1) by rw [hi12.1]; exact congrArg r41 (by omega)]; exact ⟨by omega, by omega⟩) (by rw [← show sto = r41 (kk + 2) by rw [hi12.2.1]; exact congrArg r41 (by omega)]; exact ⟨by omega, by omega⟩) ⟨by omega, by omega⟩) (cwV 3 hts gX7_readPause_X7_told rfl rfl rfl (by decide +kernel) ⟨Nat.le_of_ble_eq_true rfl, Nat.le_of_ble_eq_true rfl⟩) (q0 := 0) rfl rfl rfl hK hNW hP hD hS hA rfl hl.1 rfl (Nat.le_of_ble_eq_true rfl) dX7_readPause_67 ⟨Nat.zero_le _, Nat.zero_le _⟩ (fun r ⟨t67, f67, s67, n67, w67, g67, fa67, zh67, r67⟩ H locs hw9 hP hD hS => ?_)
      obtain ⟨z67, hr9, hw9, hv9⟩ := hw9
      subst hr9
      have hz67 : TP tape zz (12, 1, spo, sfr, sto, n19, sea, zk, sli, r41) t19 t41 n41 (r41 (kk + 1)) (r41 (kk + 2)) fa41 z67 t67 f67 s67 n67 w67 g67 fa67 zh67 := hw9
      have hv67 : z67 = 1 → r67 = up r41 ((188 + (5 * (rd 3))) + 2) n41 := hv9
      have zb67 : z67 = 0 ∨ z67 = 1 := hz67.elim (fun z => Or.inl z.1) (fun z => Or.inr z.1)
      have hP : va_P D vwCl (wT q C th ta fa67 sm tape now snaps w67 zz t67 f67 s67 n67 zh67 g67 zk zl r67 sa) H := hP
      have hD : va_D A (wT q C th ta fa67 sm tape now snaps w67 zz t67 f67 s67 n67 zh67 g67 zk zl r67 sa) := hD
      refine j_if_eq (tgt := 110) hx hb dX7_readPause_70 rfl ⟨by omega, by omega⟩ (fun c70 => ?_) (fun c70 => ?_)
      · skip
        have no67 := (hz67.resolve_right (fun z => by have := z.1; omega)).2
        refine lv_iconst (v := iI (0)) hx hb dX7_readPause_110 rfl ?_
        exact hret H locs ls 111 _ (t67, f67, s67, n67, w67, g67, fa67, zh67, r67) dX7_readPause_111 (Or.inl rfl) ⟨0, rfl, Or.inl ⟨rfl, w1.trans no67⟩, fun z => by omega⟩ hP hD hS
      · skip
        have ok67 := (hz67.resolve_left (fun z => by have := z.1; omega)).2
        have e67 : r67 = up r41 (190 + 5 * r41 3) n41 := by rw [hv67 (by omega)]; exact congrArg (fun z => up r41 z n41) (by omega)
        have m2 := MI_12 (m := n41) m1 (by rw [show sfr = r41 (kk + 1) by rw [hi12.1]; exact congrArg r41 (by omega)]; exact ok67.2.1) (by rw [show sto = r41 (kk + 2) by rw [hi12.2.1]; exact congrArg r41 (by omega)]; exact ok67.2.2.1)
        rw [← e67] at m2
        have w2 : runT tape zz (3, 1, spo, sfr, sto, sln, sea, zk, sli, rd) e0 = runT tape zz (13, 1, spo, sfr, sto, n19, n41, zk, sli, r67) t41 := by rw [w1, e67]; exact ok67.2.2.2.2.2.2
        have q67 := LA_zs ok67.2.2.2.2.1
        have b2 : r67 2 = rd 2 := by rw [e67, up_n _ _ (by omega)]; exact a2
        have b3 : r67 3 = rd 3 := by rw [e67, up_n _ _ (by omega)]; exact a3
        have hi13 := MI_in m2 (Or.inr (by omega))
        have h13 := MI_in13 m2
        have ea : r67 (188 + 5 * rd 3 + 2) = n41 := by rw [← h13.2.2.2]; exact congrArg r67 (by omega)
        have el : r67 (188 + 5 * rd 3 + 1) = n19 := by rw [← h13.1]; exact congrArg r67 (by omega)
        have ez : r67 (kk + 2) = sto := by rw [hi13.2.1]; exact congrArg r67 (by omega)
        refine lv_aload_n hx hb dX7_readPause_73 rfl (lv_at hl 1 rfl) ?_
        refine lv_iload_n hx hb dX7_readPause_74 rfl (lv_at hl 0 rfl) ?_
        refine lv_iconst (v := iI (3)) hx hb dX7_readPause_75 rfl ?_
        refine j_iadd hx hb dX7_readPause_76 ?_
        refine lv_aload_n hx hb dX7_readPause_77 rfl (lv_at hl 1 rfl) ?_
        refine va_get (D := D) (ci := 7) (v := .ref (q 39)) (C := RX7) (T := TX7) (N := 23) hx hb hts (by decide +kernel) hown hK hP 0 rfl rfl 12 (by decide) (hts (.fieldLink RX7 77 "BreakSetterModel" "read" "[I") (by decide +kernel)) (fun _ h9 => h9) rfl dX7_readPause_78 ?_
        refine lv_iload_n hx hb dX7_readPause_81 rfl (lv_at hl 0 rfl) ?_
        refine lv_iconst (v := iI (2)) hx hb dX7_readPause_82 rfl ?_
        refine j_iadd hx hb dX7_readPause_83 ?_
        refine j_iald hx hb hK hP 3 1 rfl rfl ⟨by omega, by omega⟩ (Nat.le_of_ble_eq_true rfl) dX7_readPause_84 ?_
        refine lv_aload_n hx hb dX7_readPause_85 rfl (lv_at hl 1 rfl) ?_
        refine va_get (D := D) (ci := 7) (v := .ref (q 39)) (C := RX7) (T := TX7) (N := 23) hx hb hts (by decide +kernel) hown hK hP 0 rfl rfl 12 (by decide) (hts (.fieldLink RX7 77 "BreakSetterModel" "read" "[I") (by decide +kernel)) (fun _ h9 => h9) rfl dX7_readPause_86 ?_
        refine lv_iload_n hx hb dX7_readPause_89 rfl (lv_at hl 2 rfl) ?_
        refine lv_iconst (v := iI (2)) hx hb dX7_readPause_90 rfl ?_
        refine j_iadd hx hb dX7_readPause_91 ?_
        refine j_iald hx hb hK hP 3 1 rfl rfl ⟨by omega, by omega⟩ (Nat.le_of_ble_eq_true rfl) dX7_readPause_92 ?_
        refine lv_aload_n hx hb dX7_readPause_93 rfl (lv_at hl 1 rfl) ?_
        refine va_get (D := D) (ci := 7) (v := .ref (q 39)) (C := RX7) (T := TX7) (N := 23) hx hb hts (by decide +kernel) hown hK hP 0 rfl rfl 12 (by decide) (hts (.fieldLink RX7 77 "BreakSetterModel" "read" "[I") (by decide +kernel)) (fun _ h9 => h9) rfl dX7_readPause_94 ?_
        refine lv_iload_n hx hb dX7_readPause_97 rfl (lv_at hl 0 rfl) ?_
        refine lv_iconst (v := iI (1)) hx hb dX7_readPause_98 rfl ?_
        refine j_iadd hx hb dX7_readPause_99 ?_
        refine j_iald hx hb hK hP 3 1 rfl rfl ⟨by omega, by omega⟩ (Nat.le_of_ble_eq_true rfl) dX7_readPause_100 ?_
        refine j_isub hx hb dX7_readPause_101 ?_
        refine lv_iconst (v := iI (1)) hx hb dX7_readPause_102 rfl ?_
        refine j_iadd hx hb dX7_readPause_103 ?_
        refine CI_callV0 (As := [.int (iI ((188 + (5 * (rd 3))) + 3)), .int (iI (r67 ((188 + (5 * (rd 3))) + 2))), .int (iI (((r67 (kk + 2)) - (r67 ((188 + (5 * (rd 3))) + 1))) + 1))]) (rest := []) ⟨hx, hb, hml, hown, hts⟩ (c_X7_told (σ := (13, 1, spo, sfr, sto, n19, n41, zk, sli, r67)) hb9 hz ok67.2.2.2.2.1 (show (5 : Int) ≤ 13 by decide) ea.symm (by show sto - n19 + 1 = _; rw [ez, el]) (by rw [ea]; exact ⟨by omega, by omega⟩) (by rw [ez, el]; exact ⟨by omega, by omega⟩) ⟨by omega, by omega⟩) (cwV 3 hts gX7_readPause_X7_told rfl rfl rfl (by decide +kernel) ⟨Nat.le_of_ble_eq_true rfl, Nat.le_of_ble_eq_true rfl⟩) (q0 := 0) rfl rfl rfl hK hNW hP hD hS hA rfl hl.1 rfl (Nat.le_of_ble_eq_true rfl) dX7_readPause_104 ⟨Nat.zero_le _, Nat.zero_le _⟩ (fun r ⟨t104, f104, s104, n104, w104, g104, fa104, zh104, r104⟩ H locs hw9 hP hD hS => ?_)
        obtain ⟨z104, hr9, hw9, hv9⟩ := hw9
        subst hr9
        have hz104 : TP tape zz (13, 1, spo, sfr, sto, n19, n41, zk, sli, r67) t41 t67 n67 (r67 ((188 + (5 * (rd 3))) + 2)) (((r67 (kk + 2)) - (r67 ((188 + (5 * (rd 3))) + 1))) + 1) fa67 z104 t104 f104 s104 n104 w104 g104 fa104 zh104 := hw9
        have hv104 : z104 = 1 → r104 = up r67 ((188 + (5 * (rd 3))) + 3) n67 := hv9
        have zb104 : z104 = 0 ∨ z104 = 1 := hz104.elim (fun z => Or.inl z.1) (fun z => Or.inr z.1)
        have hP : va_P D vwCl (wT q C th ta fa104 sm tape now snaps w104 zz t104 f104 s104 n104 zh104 g104 zk zl r104 sa) H := hP
        have hD : va_D A (wT q C th ta fa104 sm tape now snaps w104 zz t104 f104 s104 n104 zh104 g104 zk zl r104 sa) := hD
        refine j_if_ne (tgt := 112) hx hb dX7_readPause_107 rfl ⟨by omega, by omega⟩ (fun c107 => ?_) (fun c107 => ?_)
        · skip
          have ok104 := (hz104.resolve_left (fun z => c107 z.1)).2
          have e104 : r104 = up r67 (188 + 5 * rd 3 + 3) n67 := hv104 (by omega)
          have m3 := MI_13 (m := n67) m2 (by rw [← ea]; exact ok104.2.1) (by have := ok104.2.2.1; rw [ez, el] at this; exact this)
          have w3 : runT tape zz (3, 1, spo, sfr, sto, sln, sea, zk, sli, rd) e0 = runT tape zz (3, 1, spo, sfr, sto, n19, n41, zk, sli, (finP r67 n67)) t67 := by rw [w2]; exact ok104.2.2.2.2.2.2
          refine lv_aload_n hx hb dX7_readPause_112 rfl (lv_at hl 1 rfl) ?_
          refine va_get (D := D) (ci := 7) (v := .ref (q 39)) (C := RX7) (T := TX7) (N := 23) hx hb hts (by decide +kernel) hown hK hP 0 rfl rfl 12 (by decide) (hts (.fieldLink RX7 77 "BreakSetterModel" "read" "[I") (by decide +kernel)) (fun _ h9 => h9) rfl dX7_readPause_113 ?_
          refine lv_iload_n hx hb dX7_readPause_116 rfl (lv_at hl 0 rfl) ?_
          refine lv_iconst (v := iI (0)) hx hb dX7_readPause_117 rfl ?_
          refine j_iadd hx hb dX7_readPause_118 ?_
          refine lv_aload_n hx hb dX7_readPause_119 rfl (lv_at hl 1 rfl) ?_
          refine va_get (D := D) (ci := 7) (v := .ref (q 39)) (C := RX7) (T := TX7) (N := 23) hx hb hts (by decide +kernel) hown hK hP 0 rfl rfl 12 (by decide) (hts (.fieldLink RX7 77 "BreakSetterModel" "read" "[I") (by decide +kernel)) (fun _ h9 => h9) rfl dX7_readPause_120 ?_
          refine lv_iconst (v := iI (2)) hx hb dX7_readPause_123 rfl ?_
          refine j_iald hx hb hK hP 3 1 rfl rfl ⟨by omega, by omega⟩ (Nat.le_of_ble_eq_true rfl) dX7_readPause_124 ?_
          refine j_iast hx hb hK hP hD hS 3 1 rfl rfl ⟨by omega, by omega⟩ (Nat.le_of_ble_eq_true rfl) dX7_readPause_125 (fun H locs hP hD hS => ?_)
          have hP : va_P D vwCl (wT q C th ta fa104 sm tape now snaps w104 zz t104 f104 s104 n104 zh104 g104 zk zl (up r104 ((188 + (5 * (rd 3))) + 0) (r104 2)) sa) H := hP
          have hD : va_D A (wT q C th ta fa104 sm tape now snaps w104 zz t104 f104 s104 n104 zh104 g104 zk zl (up r104 ((188 + (5 * (rd 3))) + 0) (r104 2)) sa) := hD
          refine lv_aload_n hx hb dX7_readPause_126 rfl (lv_at hl 1 rfl) ?_
          refine va_get (D := D) (ci := 7) (v := .ref (q 39)) (C := RX7) (T := TX7) (N := 23) hx hb hts (by decide +kernel) hown hK hP 0 rfl rfl 12 (by decide) (hts (.fieldLink RX7 77 "BreakSetterModel" "read" "[I") (by decide +kernel)) (fun _ h9 => h9) rfl dX7_readPause_127 ?_
          refine lv_iload_n hx hb dX7_readPause_130 rfl (lv_at hl 2 rfl) ?_
          refine lv_iconst (v := iI (3)) hx hb dX7_readPause_131 rfl ?_
          refine j_iadd hx hb dX7_readPause_132 ?_
          refine lv_dup2_11 hx hb dX7_readPause_133 rfl rfl ?_
          refine j_iald hx hb hK hP 3 1 rfl rfl ⟨by omega, by omega⟩ (Nat.le_of_ble_eq_true rfl) dX7_readPause_134 ?_
          refine lv_iconst (v := iI (1)) hx hb dX7_readPause_135 rfl ?_
          refine j_iadd hx hb dX7_readPause_136 ?_
          refine j_iast hx hb hK hP hD hS 3 1 rfl rfl ⟨by omega, by omega⟩ (Nat.le_of_ble_eq_true rfl) dX7_readPause_137 (fun H locs hP hD hS => ?_)
          have hP : va_P D vwCl (wT q C th ta fa104 sm tape now snaps w104 zz t104 f104 s104 n104 zh104 g104 zk zl (up (up r104 ((188 + (5 * (rd 3))) + 0) (r104 2)) (kk + 3) (((up r104 ((188 + (5 * (rd 3))) + 0) (r104 2)) (kk + 3)) + 1)) sa) H := hP
          have hD : va_D A (wT q C th ta fa104 sm tape now snaps w104 zz t104 f104 s104 n104 zh104 g104 zk zl (up (up r104 ((188 + (5 * (rd 3))) + 0) (r104 2)) (kk + 3) (((up r104 ((188 + (5 * (rd 3))) + 0) (r104 2)) (kk + 3)) + 1)) sa) := hD
          refine lv_aload_n hx hb dX7_readPause_138 rfl (lv_at hl 1 rfl) ?_
          refine va_get (D := D) (ci := 7) (v := .ref (q 39)) (C := RX7) (T := TX7) (N := 23) hx hb hts (by decide +kernel) hown hK hP 0 rfl rfl 12 (by decide) (hts (.fieldLink RX7 77 "BreakSetterModel" "read" "[I") (by decide +kernel)) (fun _ h9 => h9) rfl dX7_readPause_139 ?_
          refine lv_iconst (v := iI (3)) hx hb dX7_readPause_142 rfl ?_
          refine lv_dup2_11 hx hb dX7_readPause_143 rfl rfl ?_
          refine j_iald hx hb hK hP 3 1 rfl rfl ⟨by omega, by omega⟩ (Nat.le_of_ble_eq_true rfl) dX7_readPause_144 ?_
          refine lv_iconst (v := iI (1)) hx hb dX7_readPause_145 rfl ?_
          refine j_iadd hx hb dX7_readPause_146 ?_
          refine j_iast hx hb hK hP hD hS 3 1 rfl rfl ⟨by omega, by omega⟩ (Nat.le_of_ble_eq_true rfl) dX7_readPause_147 (fun H locs hP hD hS => ?_)
          have hP : va_P D vwCl (wT q C th ta fa104 sm tape now snaps w104 zz t104 f104 s104 n104 zh104 g104 zk zl (up (up (up r104 ((188 + (5 * (rd 3))) + 0) (r104 2)) (kk + 3) (((up r104 ((188 + (5 * (rd 3))) + 0) (r104 2)) (kk + 3)) + 1)) 3 (((up (up r104 ((188 + (5 * (rd 3))) + 0) (r104 2)) (kk + 3) (((up r104 ((188 + (5 * (rd 3))) + 0) (r104 2)) (kk + 3)) + 1)) 3) + 1)) sa) H := hP
          have hD : va_D A (wT q C th ta fa104 sm tape now snaps w104 zz t104 f104 s104 n104 zh104 g104 zk zl (up (up (up r104 ((188 + (5 * (rd 3))) + 0) (r104 2)) (kk + 3) (((up r104 ((188 + (5 * (rd 3))) + 0) (r104 2)) (kk + 3)) + 1)) 3 (((up (up r104 ((188 + (5 * (rd 3))) + 0) (r104 2)) (kk + 3) (((up r104 ((188 + (5 * (rd 3))) + 0) (r104 2)) (kk + 3)) + 1)) 3) + 1)) sa) := hD
          have ef := finP_row (g := r67) (f := r104) (m := n67) (x := 188 + 5 * rd 3 + 0) (y := kk + 3) ⟨by omega, by omega⟩ ⟨by omega, by omega⟩ (by rw [e104]; exact congrArg (fun z => up r67 z n67) (by omega)) (by omega) (by omega)
          rw [ef] at hP hD
          have hP : va_P D vwCl (wT q C th ta fa104 sm tape now snaps w104 zz t104 f104 s104 n104 zh104 g104 zk zl (finP r67 n67) sa) H := hP
          have hD : va_D A (wT q C th ta fa104 sm tape now snaps w104 zz t104 f104 s104 n104 zh104 g104 zk zl (finP r67 n67) sa) := hD
          refine lv_iconst (v := iI (1)) hx hb dX7_readPause_148 rfl ?_
          exact hret H locs ls 149 _ (t104, f104, s104, n104, w104, g104, fa104, zh104, finP r67 n67) dX7_readPause_149 (Or.inr rfl) ⟨1, rfl, Or.inr ⟨rfl, by show fa104 = fa; have := ok41.2.2.2.1; have := ok67.2.2.2.1; have := ok104.2.2.2.1; omega, t67, spo, sfr, sto, n19, n41, by have := ok41.2.2.2.2.2.1; have := ok67.2.2.2.2.2.1; have := ok104.2.2.2.2.2.1; omega, ok104.2.2.2.2.1, m3.1, w3⟩, fun _ => by show finP r67 n67 2 = rd 2; rw [(finP_at (g := r67) (m := n67) ⟨by omega, by omega⟩ ⟨by omega, by omega⟩).2.2.2.2 2 (by omega) (by omega) (by omega) (by omega)]; exact b2⟩ hP hD hS
        · skip
          have no104 := (hz104.resolve_right (fun z => by have := z.1; omega)).2
          refine lv_iconst (v := iI (0)) hx hb dX7_readPause_110 rfl ?_
          exact hret H locs ls 111 _ (t104, f104, s104, n104, w104, g104, fa104, zh104, r104) dX7_readPause_111 (Or.inl rfl) ⟨0, rfl, Or.inl ⟨rfl, w2.trans no104⟩, fun z => by omega⟩ hP hD hS
  · skip
    refine lv_aload_n hx hb dX7_readPause_12 rfl (lv_at hl 0 rfl) ?_
    refine lv_iconst (v := iI (3)) hx hb dX7_readPause_13 rfl ?_
    refine CI_callV0 (As := [.int (iI (3))]) (rest := []) ⟨hx, hb, hml, hown, hts⟩ (c_X7_bad ⟨by omega, by omega⟩) (cwV 1 hts gX7_readPause_X7_bad rfl rfl rfl (by decide +kernel) ⟨Nat.le_of_ble_eq_true rfl, Nat.le_of_ble_eq_true rfl⟩) (q0 := 0) rfl rfl rfl hK hNW hP hD hS hA rfl hl.1 rfl (Nat.le_of_ble_eq_true rfl) dX7_readPause_14 ⟨Nat.zero_le _, Nat.zero_le _⟩ (fun r b14 H locs hw9 hP hD hS => ?_)
    obtain ⟨hr9, hb14⟩ := hw9
    subst hr9
    have hP : va_P D vwCl (wT q C th ta b14 sm tape now snaps wz zz zt zf zs zn zf zg zk zl rd sa) H := hP
    have hD : va_D A (wT q C th ta b14 sm tape now snaps wz zz zt zf zs zn zf zg zk zl rd sa) := hD
    exact hret H locs ls 17 _ (zt, zf, zs, zn, wz, zg, b14, zf, rd) dX7_readPause_17 (Or.inl rfl) ⟨0, rfl, Or.inl ⟨rfl, by show _ = Sum.inl (b14, zf); rw [hb14, if_neg (by omega)]; exact lw.1 3 (if_pos (show 3 ≤ rd (151 + 5 * rd 2) by omega))⟩, fun z => by omega⟩ hP hD hS

set_option maxHeartbeats 4000000 in
set_option maxRecDepth 100000 in
theorem c_X7_readShift {l : Launch} {D : va_G} {C : Nat → ClassId} {q : Nat → Nat} {th ta fa sm : Int} {tape now snaps : Int → Int} {wz zz zt zf zs zn zh zg zk zl : Int} {rd : Int → Int} {sa : Nat → Int → Int} (hb9 : ∀ k : Int, 0 ≤ k → k < 640 → 0 ≤ tape k ∧ tape k < 256) (hz : 0 ≤ zz ∧ zz ≤ 640) {e0 : Int} (hLA : LA tape zz e0 zt zf zs zn wz) {sq si : Int} {spo sfr sto sln sea sli : Int} (hM : MI (sq, si, spo, sfr, sto, sln, sea, zk, sli, rd)) (hq : sq = 1 ∨ sq = 2) (hwd : zs = 2 ∧ wz = 10261586) : CI (S := Int × Int × Int × Int × Int × Int × Int × Int × (Int → Int)) l yX7_readShift wsX7_readShift 5 112 D C [.ref (q 36)] (wT q C th ta fa sm tape now snaps wz zz zt zf zs zn zh zg zk zl rd sa) (fun u => wT q C th ta (u.2.2.2.2.2.2.1) sm tape now snaps (u.2.2.2.2.1) zz (u.1) (u.2.1) (u.2.2.1) (u.2.2.2.1) (u.2.2.2.2.2.2.2.1) (u.2.2.2.2.2.1) zk zl (u.2.2.2.2.2.2.2.2) sa) (fun r u => ∃ z : Int, r = iI z ∧ RN tape zz (sq, si, spo, sfr, sto, sln, sea, zk, sli, rd) e0 fa z (u.1) (u.2.1) (u.2.2.1) (u.2.2.2.1) (u.2.2.2.2.1) (u.2.2.2.2.2.2.1) (u.2.2.2.2.2.2.2.1) 2 1 zk (sli + 1) (u.2.2.2.2.2.2.2.2)) := by
  refine CZ_of (cc := cX7_readShift) (maxL := 2) (by decide) rfl (Nat.le_of_ble_eq_true rfl) ?_
  intro p e s m below meth c A Q ls hx hb hml hown hts hK hNW hA hl hP hD hS hret
  have hl : lv_has ls 2 [(0, .ref (q 36))] := hl
  have hq0 := LA_zs hLA
  have h0 := hM.1.2.2.2.2.2.1 (by omega)
  have h2 := hM.1.2.2.2.1
  have lw := LA_wd (w := 3) hLA hwd.1 (Or.inr (Or.inr (Or.inl ⟨rfl, hwd.2⟩))) (σ := (sq, si, spo, sfr, sto, sln, sea, zk, sli, rd))
  have wd := wd_shift (ins := si) (po := spo) (fr := sfr) (to := sto) (ln := sln) (ea := sea) (nds := zk) (li := sli) (g := rd) hq
  refine lv_aload_n hx hb dX7_readShift_0 rfl (lv_at hl 0 rfl) ?_
  refine va_get (D := D) (ci := 7) (v := .ref (q 39)) (C := RX7) (T := TX7) (N := 23) hx hb hts (by decide +kernel) hown hK hP 0 rfl rfl 12 (by decide) (hts (.fieldLink RX7 77 "BreakSetterModel" "read" "[I") (by decide +kernel)) (fun _ h9 => h9) rfl dX7_readShift_1 ?_
  refine lv_iconst (v := iI (2)) hx hb dX7_readShift_4 rfl ?_
  refine j_iald hx hb hK hP 3 1 rfl rfl ⟨by omega, by omega⟩ (Nat.le_of_ble_eq_true rfl) dX7_readShift_5 ?_
  refine lv_bipush (v := iI (8)) hx hb dX7_readShift_6 (by decide) ?_
  refine j_icmp_ne (tgt := 17) hx hb dX7_readShift_8 rfl ⟨by omega, by omega⟩ ⟨by decide, by decide⟩ (fun c8 => ?_) (fun c8 => ?_)
  · skip
    have w0 : runT tape zz (sq, si, spo, sfr, sto, sln, sea, zk, sli, rd) e0 = runT tape zz (7, 1, spo, sfr, sto, sln, sea, zk, sli, rd) zt := lw.2 _ (by rw [wd, if_neg (show ¬ 8 ≤ rd 2 by omega)])
    have m0 := MI_12s hq hM (show ¬ 8 ≤ rd 2 by omega)
    have zr := LA_zt hLA (by omega)
    refine lv_aload_n hx hb dX7_readShift_17 rfl (lv_at hl 0 rfl) ?_
    refine CV_callV0 (As := []) (rest := []) ⟨hx, hb, hml, hown, hts⟩ (c_X7_go hb9 hz ⟨by omega, by omega⟩) (cwV 0 hts gX7_readShift_X7_go rfl rfl rfl (by decide +kernel) ⟨Nat.le_of_ble_eq_true rfl, Nat.le_of_ble_eq_true rfl⟩) (q0 := 0) rfl rfl rfl hK hNW hP hD hS hA rfl hl.1 rfl (Nat.le_of_ble_eq_true rfl) dX7_readShift_18 ⟨Nat.zero_le _, Nat.zero_le _⟩ (fun ⟨t18, f18, s18, n18, w18⟩ H locs hw9 hP hD hS => ?_)
    have hP : va_P D vwCl (wT q C th ta fa sm tape now snaps w18 zz t18 f18 s18 n18 zh zg zk zl rd sa) H := hP
    have hD : va_D A (wT q C th ta fa sm tape now snaps w18 zz t18 f18 s18 n18 zh zg zk zl rd sa) := hD
    have hLA18 : LA tape zz zt t18 f18 s18 n18 w18 := hw9
    have hq18 := LA_zs hLA18
    refine lv_sipush (v := iI (148)) hx hb dX7_readShift_21 (by decide) ?_
    refine lv_iconst (v := iI (5)) hx hb dX7_readShift_24 rfl ?_
    refine lv_aload_n hx hb dX7_readShift_25 rfl (lv_at hl 0 rfl) ?_
    refine va_get (D := D) (ci := 7) (v := .ref (q 39)) (C := RX7) (T := TX7) (N := 23) hx hb hts (by decide +kernel) hown hK hP 0 rfl rfl 12 (by decide) (hts (.fieldLink RX7 77 "BreakSetterModel" "read" "[I") (by decide +kernel)) (fun _ h9 => h9) rfl dX7_readShift_26 ?_
    refine lv_iconst (v := iI (2)) hx hb dX7_readShift_29 rfl ?_
    refine j_iald hx hb hK hP 3 1 rfl rfl ⟨by omega, by omega⟩ (Nat.le_of_ble_eq_true rfl) dX7_readShift_30 ?_
    refine j_imul hx hb dX7_readShift_31 ?_
    refine j_iadd hx hb dX7_readShift_32 ?_
    refine lv_istore_n (lv' := [(1, .int (iI (148 + (5 * (rd 2))))), (0, .ref (q 36))]) hx hb dX7_readShift_33 rfl hl (by decide) rfl (fun ls hl => ?_)
    refine lv_aload_n hx hb dX7_readShift_34 rfl (lv_at hl 1 rfl) ?_
    refine lv_iload_n hx hb dX7_readShift_35 rfl (lv_at hl 0 rfl) ?_
    refine lv_iconst (v := iI (0)) hx hb dX7_readShift_36 rfl ?_
    refine j_iadd hx hb dX7_readShift_37 ?_
    refine lv_iconst (v := iI (0)) hx hb dX7_readShift_38 rfl ?_
    refine lv_aload_n hx hb dX7_readShift_39 rfl (lv_at hl 1 rfl) ?_
    refine va_get (D := D) (ci := 7) (v := .ref (q 39)) (C := RX7) (T := TX7) (N := 23) hx hb hts (by decide +kernel) hown hK hP 0 rfl rfl 12 (by decide) (hts (.fieldLink RX7 77 "BreakSetterModel" "read" "[I") (by decide +kernel)) (fun _ h9 => h9) rfl dX7_readShift_40 ?_
    refine lv_iconst (v := iI (0)) hx hb dX7_readShift_43 rfl ?_
    refine j_iald hx hb hK hP 3 1 rfl rfl ⟨by omega, by omega⟩ (Nat.le_of_ble_eq_true rfl) dX7_readShift_44 ?_
    refine lv_iconst (v := iI (1)) hx hb dX7_readShift_45 rfl ?_
    refine j_isub hx hb dX7_readShift_46 ?_
    refine CI_callV0 (As := [.int (iI ((148 + (5 * (rd 2))) + 0)), .int (iI (0)), .int (iI ((rd 0) - 1))]) (rest := []) ⟨hx, hb, hml, hown, hts⟩ (c_X7_told (σ := (7, 1, spo, sfr, sto, sln, sea, zk, sli, rd)) hb9 hz hLA18 (show (5 : Int) ≤ 7 by decide) rfl rfl ⟨by decide, by decide⟩ ⟨by omega, by omega⟩ ⟨by omega, by omega⟩) (cwV 3 hts gX7_readShift_X7_told rfl rfl rfl (by decide +kernel) ⟨Nat.le_of_ble_eq_true rfl, Nat.le_of_ble_eq_true rfl⟩) (q0 := 0) rfl rfl rfl hK hNW hP hD hS hA rfl hl.1 rfl (Nat.le_of_ble_eq_true rfl) dX7_readShift_47 ⟨Nat.zero_le _, Nat.zero_le _⟩ (fun r ⟨t47, f47, s47, n47, w47, g47, fa47, zh47, r47⟩ H locs hw9 hP hD hS => ?_)
    obtain ⟨z47, hr9, hw9, hv9⟩ := hw9
    subst hr9
    have hz47 : TP tape zz (7, 1, spo, sfr, sto, sln, sea, zk, sli, rd) zt t18 n18 0 ((rd 0) - 1) fa z47 t47 f47 s47 n47 w47 g47 fa47 zh47 := hw9
    have hv47 : z47 = 1 → r47 = up rd ((148 + (5 * (rd 2))) + 0) n18 := hv9
    have zb47 : z47 = 0 ∨ z47 = 1 := hz47.elim (fun z => Or.inl z.1) (fun z => Or.inr z.1)
    have hP : va_P D vwCl (wT q C th ta fa47 sm tape now snaps w47 zz t47 f47 s47 n47 zh47 g47 zk zl r47 sa) H := hP
    have hD : va_D A (wT q C th ta fa47 sm tape now snaps w47 zz t47 f47 s47 n47 zh47 g47 zk zl r47 sa) := hD
    refine j_if_eq (tgt := 86) hx hb dX7_readShift_50 rfl ⟨by omega, by omega⟩ (fun c50 => ?_) (fun c50 => ?_)
    · skip
      have no47 := (hz47.resolve_right (fun z => by have := z.1; omega)).2
      refine lv_iconst (v := iI (0)) hx hb dX7_readShift_86 rfl ?_
      exact hret H locs ls 87 _ (t47, f47, s47, n47, w47, g47, fa47, zh47, r47) dX7_readShift_87 (Or.inl rfl) ⟨0, rfl, Or.inl ⟨rfl, w0.trans no47⟩⟩ hP hD hS
    · skip
      have ok47 := (hz47.resolve_left (fun z => by have := z.1; omega)).2
      have e47 : r47 = up rd (148 + 5 * rd 2) n18 := by rw [hv47 (by omega)]; exact congrArg (fun z => up rd z n18) (by omega)
      have m1 := MI_7i m0 ok47.2.1 ok47.2.2.1
      rw [← e47] at m1
      have w1 : runT tape zz (sq, si, spo, sfr, sto, sln, sea, zk, sli, rd) e0 = runT tape zz (8, 1, n18, sfr, sto, sln, sea, zk, sli, r47) t18 := by rw [w0, e47]; exact ok47.2.2.2.2.2.2
      have q47 := LA_zs ok47.2.2.2.2.1
      have a2 : r47 2 = rd 2 := by rw [e47]; exact up_n _ _ (by omega)
      have a0 : r47 0 = rd 0 := by rw [e47]; exact up_n _ _ (by omega)
      refine lv_aload_n hx hb dX7_readShift_53 rfl (lv_at hl 1 rfl) ?_
      refine lv_iload_n hx hb dX7_readShift_54 rfl (lv_at hl 0 rfl) ?_
      refine lv_iconst (v := iI (1)) hx hb dX7_readShift_55 rfl ?_
      refine j_iadd hx hb dX7_readShift_56 ?_
      refine lv_iconst (v := iI (0)) hx hb dX7_readShift_57 rfl ?_
      refine lv_bipush (v := iI (47)) hx hb dX7_readShift_58 (by decide) ?_
      refine CI_callV0 (As := [.int (iI ((148 + (5 * (rd 2))) + 1)), .int (iI (0)), .int (iI (47))]) (rest := []) ⟨hx, hb, hml, hown, hts⟩ (c_X7_told (σ := (8, 1, n18, sfr, sto, sln, sea, zk, sli, r47)) hb9 hz ok47.2.2.2.2.1 (show (5 : Int) ≤ 8 by decide) rfl rfl ⟨by decide, by decide⟩ ⟨by decide, by decide⟩ ⟨by omega, by omega⟩) (cwV 3 hts gX7_readShift_X7_told rfl rfl rfl (by decide +kernel) ⟨Nat.le_of_ble_eq_true rfl, Nat.le_of_ble_eq_true rfl⟩) (q0 := 0) rfl rfl rfl hK hNW hP hD hS hA rfl hl.1 rfl (Nat.le_of_ble_eq_true rfl) dX7_readShift_60 ⟨Nat.zero_le _, Nat.zero_le _⟩ (fun r ⟨t60, f60, s60, n60, w60, g60, fa60, zh60, r60⟩ H locs hw9 hP hD hS => ?_)
      obtain ⟨z60, hr9, hw9, hv9⟩ := hw9
      subst hr9
      have hz60 : TP tape zz (8, 1, n18, sfr, sto, sln, sea, zk, sli, r47) t18 t47 n47 0 47 fa47 z60 t60 f60 s60 n60 w60 g60 fa60 zh60 := hw9
      have hv60 : z60 = 1 → r60 = up r47 ((148 + (5 * (rd 2))) + 1) n47 := hv9
      have zb60 : z60 = 0 ∨ z60 = 1 := hz60.elim (fun z => Or.inl z.1) (fun z => Or.inr z.1)
      have hP : va_P D vwCl (wT q C th ta fa60 sm tape now snaps w60 zz t60 f60 s60 n60 zh60 g60 zk zl r60 sa) H := hP
      have hD : va_D A (wT q C th ta fa60 sm tape now snaps w60 zz t60 f60 s60 n60 zh60 g60 zk zl r60 sa) := hD
      refine j_if_eq (tgt := 86) hx hb dX7_readShift_63 rfl ⟨by omega, by omega⟩ (fun c63 => ?_) (fun c63 => ?_)
      · skip
        have no60 := (hz60.resolve_right (fun z => by have := z.1; omega)).2
        refine lv_iconst (v := iI (0)) hx hb dX7_readShift_86 rfl ?_
        exact hret H locs ls 87 _ (t60, f60, s60, n60, w60, g60, fa60, zh60, r60) dX7_readShift_87 (Or.inl rfl) ⟨0, rfl, Or.inl ⟨rfl, w1.trans no60⟩⟩ hP hD hS
      · skip
        have ok60 := (hz60.resolve_left (fun z => by have := z.1; omega)).2
        have e60 : r60 = up r47 (149 + 5 * r47 2) n47 := by rw [hv60 (by omega)]; exact congrArg (fun z => up r47 z n47) (by omega)
        have m2 := MI_8i m1 ok60.2.1 ok60.2.2.1
        rw [← e60] at m2
        have w2 : runT tape zz (sq, si, spo, sfr, sto, sln, sea, zk, sli, rd) e0 = runT tape zz (9, 1, n18, n47, sto, sln, sea, zk, sli, r60) t47 := by rw [w1, e60]; exact ok60.2.2.2.2.2.2
        have q60 := LA_zs ok60.2.2.2.2.1
        have b2 : r60 2 = rd 2 := by rw [e60, up_n _ _ (by omega)]; exact a2
        have e9 : r60 (148 + 5 * rd 2 + 1) = n47 := by rw [e60, show 148 + 5 * rd 2 + 1 = 149 + 5 * r47 2 by omega]; exact up_s _ _ _
        have n47r : 0 ≤ n47 ∧ n47 ≤ 47 := ⟨ok60.2.1, ok60.2.2.1⟩
        refine lv_aload_n hx hb dX7_readShift_66 rfl (lv_at hl 1 rfl) ?_
        refine lv_iload_n hx hb dX7_readShift_67 rfl (lv_at hl 0 rfl) ?_
        refine lv_iconst (v := iI (2)) hx hb dX7_readShift_68 rfl ?_
        refine j_iadd hx hb dX7_readShift_69 ?_
        refine lv_aload_n hx hb dX7_readShift_70 rfl (lv_at hl 1 rfl) ?_
        refine va_get (D := D) (ci := 7) (v := .ref (q 39)) (C := RX7) (T := TX7) (N := 23) hx hb hts (by decide +kernel) hown hK hP 0 rfl rfl 12 (by decide) (hts (.fieldLink RX7 77 "BreakSetterModel" "read" "[I") (by decide +kernel)) (fun _ h9 => h9) rfl dX7_readShift_71 ?_
        refine lv_iload_n hx hb dX7_readShift_74 rfl (lv_at hl 0 rfl) ?_
        refine lv_iconst (v := iI (1)) hx hb dX7_readShift_75 rfl ?_
        refine j_iadd hx hb dX7_readShift_76 ?_
        refine j_iald hx hb hK hP 3 1 rfl rfl ⟨by omega, by omega⟩ (Nat.le_of_ble_eq_true rfl) dX7_readShift_77 ?_
        refine lv_bipush (v := iI (47)) hx hb dX7_readShift_78 (by decide) ?_
        refine CI_callV0 (As := [.int (iI ((148 + (5 * (rd 2))) + 2)), .int (iI (r60 ((148 + (5 * (rd 2))) + 1))), .int (iI (47))]) (rest := []) ⟨hx, hb, hml, hown, hts⟩ (c_X7_told (σ := (9, 1, n18, n47, sto, sln, sea, zk, sli, r60)) hb9 hz ok60.2.2.2.2.1 (show (5 : Int) ≤ 9 by decide) e9.symm rfl (by rw [e9]; exact ⟨by omega, by omega⟩) ⟨by decide, by decide⟩ ⟨by omega, by omega⟩) (cwV 3 hts gX7_readShift_X7_told rfl rfl rfl (by decide +kernel) ⟨Nat.le_of_ble_eq_true rfl, Nat.le_of_ble_eq_true rfl⟩) (q0 := 0) rfl rfl rfl hK hNW hP hD hS hA rfl hl.1 rfl (Nat.le_of_ble_eq_true rfl) dX7_readShift_80 ⟨Nat.zero_le _, Nat.zero_le _⟩ (fun r ⟨t80, f80, s80, n80, w80, g80, fa80, zh80, r80⟩ H locs hw9 hP hD hS => ?_)
        obtain ⟨z80, hr9, hw9, hv9⟩ := hw9
        subst hr9
        have hz80 : TP tape zz (9, 1, n18, n47, sto, sln, sea, zk, sli, r60) t47 t60 n60 (r60 ((148 + (5 * (rd 2))) + 1)) 47 fa60 z80 t80 f80 s80 n80 w80 g80 fa80 zh80 := hw9
        have hv80 : z80 = 1 → r80 = up r60 ((148 + (5 * (rd 2))) + 2) n60 := hv9
        have zb80 : z80 = 0 ∨ z80 = 1 := hz80.elim (fun z => Or.inl z.1) (fun z => Or.inr z.1)
        have hP : va_P D vwCl (wT q C th ta fa80 sm tape now snaps w80 zz t80 f80 s80 n80 zh80 g80 zk zl r80 sa) H := hP
        have hD : va_D A (wT q C th ta fa80 sm tape now snaps w80 zz t80 f80 s80 n80 zh80 g80 zk zl r80 sa) := hD
        refine j_if_ne (tgt := 88) hx hb dX7_readShift_83 rfl ⟨by omega, by omega⟩ (fun c83 => ?_) (fun c83 => ?_)
        · skip
          have ok80 := (hz80.resolve_left (fun z => c83 z.1)).2
          have e80 : r80 = up r60 (150 + 5 * r60 2) n60 := by rw [hv80 (by omega)]; exact congrArg (fun z => up r60 z n60) (by omega)
          have m3 := MI_9i m2 (by rw [← e9]; exact ok80.2.1) ok80.2.2.1
          have w3 : runT tape zz (sq, si, spo, sfr, sto, sln, sea, zk, sli, rd) e0 = runT tape zz (3, 1, n18, n47, n60, sln, sea, zk, sli, (up (up r60 (150 + 5 * r60 2) n60) (152 + 5 * r60 2) (r60 3))) t60 := by rw [w2]; exact ok80.2.2.2.2.2.2
          have q80 := LA_zs ok80.2.2.2.2.1
          refine lv_aload_n hx hb dX7_readShift_88 rfl (lv_at hl 1 rfl) ?_
          refine va_get (D := D) (ci := 7) (v := .ref (q 39)) (C := RX7) (T := TX7) (N := 23) hx hb hts (by decide +kernel) hown hK hP 0 rfl rfl 12 (by decide) (hts (.fieldLink RX7 77 "BreakSetterModel" "read" "[I") (by decide +kernel)) (fun _ h9 => h9) rfl dX7_readShift_89 ?_
          refine lv_iload_n hx hb dX7_readShift_92 rfl (lv_at hl 0 rfl) ?_
          refine lv_iconst (v := iI (4)) hx hb dX7_readShift_93 rfl ?_
          refine j_iadd hx hb dX7_readShift_94 ?_
          refine lv_aload_n hx hb dX7_readShift_95 rfl (lv_at hl 1 rfl) ?_
          refine va_get (D := D) (ci := 7) (v := .ref (q 39)) (C := RX7) (T := TX7) (N := 23) hx hb hts (by decide +kernel) hown hK hP 0 rfl rfl 12 (by decide) (hts (.fieldLink RX7 77 "BreakSetterModel" "read" "[I") (by decide +kernel)) (fun _ h9 => h9) rfl dX7_readShift_96 ?_
          refine lv_iconst (v := iI (3)) hx hb dX7_readShift_99 rfl ?_
          refine j_iald hx hb hK hP 3 1 rfl rfl ⟨by omega, by omega⟩ (Nat.le_of_ble_eq_true rfl) dX7_readShift_100 ?_
          refine j_iast hx hb hK hP hD hS 3 1 rfl rfl ⟨by omega, by omega⟩ (Nat.le_of_ble_eq_true rfl) dX7_readShift_101 (fun H locs hP hD hS => ?_)
          have hP : va_P D vwCl (wT q C th ta fa80 sm tape now snaps w80 zz t80 f80 s80 n80 zh80 g80 zk zl (up r80 ((148 + (5 * (rd 2))) + 4) (r80 3)) sa) H := hP
          have hD : va_D A (wT q C th ta fa80 sm tape now snaps w80 zz t80 f80 s80 n80 zh80 g80 zk zl (up r80 ((148 + (5 * (rd 2))) + 4) (r80 3)) sa) := hD
          have L102 : ∀ (n : Nat) (x0 : Int) (x1 : Int) (x2 : Int) (x3 : Int) (x4 : Int) (x5 : Int) (x6 : Int) (x7 : Int) (r1 : Int → Int) (e1 : Int) (p1 : Int) (f1 : Int) (o1 : Int) (l1 : Int) (a1 : Int) (ls : Array Slot) (H : Heap) (locs : List Loc), (LA tape zz e1 x0 x1 x2 x3 x4) → (MI (3, 1, p1, f1, o1, l1, a1, zk, sli, r1)) → (runT tape zz (sq, si, spo, sfr, sto, sln, sea, zk, sli, rd) e0 = runT tape zz (3, 1, p1, f1, o1, l1, a1, zk, sli, r1) e1) → (x6 = fa ∧ r1 2 = rd 2 ∧ e0 < e1) → ((zz - e1).toNat < n) → (lv_has ls 2 [(1, .int (iI (148 + (5 * (rd 2))))), (0, .ref (q 36))]) → (va_P D vwCl (wT q C th ta x6 sm tape now snaps x4 zz x0 x1 x2 x3 x7 x5 zk zl r1 sa) H) → (va_D A (wT q C th ta x6 sm tape now snaps x4 zz x0 x1 x2 x3 x7 x5 zk zl r1 sa)) → (va_S A s.heap H locs) → W p l e (rmN 5 112) s m ([.ref (q 36)] : List Value).toArray below meth c H locs 0 0 Q (F0 m 102 ls []) := by
            intro n
            induction n with
            | zero => intro x0 x1 x2 x3 x4 x5 x6 x7 r1 e1 p1 f1 o1 l1 a1 ls H locs L1 M1 W1 F1 hn; exact absurd hn (Nat.not_lt_zero _)
            | succ n ih102 =>
              intro x0 x1 x2 x3 x4 x5 x6 x7 r1 e1 p1 f1 o1 l1 a1 ls H locs L1 M1 W1 F1 hn hl hP hD hS
              have hn102 := hn
              have qx := LA_zs L1
              have ix := MI_in M1 (Or.inl rfl)
              have rx := L1.1
              refine lv_aload_n hx hb dX7_readShift_102 rfl (lv_at hl 1 rfl) ?_
              refine lv_bipush (v := iI (112)) hx hb dX7_readShift_103 (by decide) ?_
              refine lv_bipush (v := iI (97)) hx hb dX7_readShift_105 (by decide) ?_
              refine lv_bipush (v := iI (117)) hx hb dX7_readShift_107 (by decide) ?_
              refine lv_bipush (v := iI (115)) hx hb dX7_readShift_109 (by decide) ?_
              refine lv_bipush (v := iI (101)) hx hb dX7_readShift_111 (by decide) ?_
              refine CR_callS (As := [.int (iI (112)), .int (iI (97)), .int (iI (117)), .int (iI (115)), .int (iI (101))]) (rest := [.ref (q 36)]) ⟨hx, hb, hml, hown, hts⟩ (c_X7_five ⟨by decide, by decide⟩ ⟨by decide, by decide⟩ ⟨by decide, by decide⟩ ⟨by decide, by decide⟩ ⟨by decide, by decide⟩) (cwS 5 hts gX7_readShift_X7_five rfl rfl rfl (by decide +kernel) ⟨Nat.le_of_ble_eq_true rfl, Nat.le_of_ble_eq_true rfl⟩) hK hNW hP rfl hl.1 rfl (Nat.le_of_ble_eq_true rfl) dX7_readShift_113 ⟨Nat.zero_le _, Nat.zero_le _⟩ ?_
              refine CR_callV (As := [.long (lI (27 * (729 * (27 * (112 - 96) + 97 - 96) + (27 * (117 - 96) + 115 - 96)) + 101 - 96))]) (rest := []) ⟨hx, hb, hml, hown, hts⟩ (c_X7_isWord ⟨by omega, by omega⟩ (LA_wz L1) ⟨by decide, by decide⟩) (cwV 1 hts gX7_readShift_X7_isWord rfl rfl rfl (by decide +kernel) ⟨Nat.le_of_ble_eq_true rfl, Nat.le_of_ble_eq_true rfl⟩) (q0 := 0) rfl rfl rfl hK hNW hP rfl hl.1 rfl (Nat.le_of_ble_eq_true rfl) dX7_readShift_116 ⟨Nat.zero_le _, Nat.zero_le _⟩ ?_
              refine j_ifeqB (tgt := 132) hx hb dX7_readShift_119 rfl (fun c119 => ?_) (fun c119 => ?_)
              · skip
                refine lv_aload_n hx hb dX7_readShift_132 rfl (lv_at hl 1 rfl) ?_
                refine va_get (D := D) (ci := 7) (v := .ref (q 39)) (C := RX7) (T := TX7) (N := 23) hx hb hts (by decide +kernel) hown hK hP 0 rfl rfl 12 (by decide) (hts (.fieldLink RX7 77 "BreakSetterModel" "read" "[I") (by decide +kernel)) (fun _ h9 => h9) rfl dX7_readShift_133 ?_
                refine lv_iconst (v := iI (2)) hx hb dX7_readShift_136 rfl ?_
                refine lv_dup2_11 hx hb dX7_readShift_137 rfl rfl ?_
                refine j_iald hx hb hK hP 3 1 rfl rfl ⟨by omega, by omega⟩ (Nat.le_of_ble_eq_true rfl) dX7_readShift_138 ?_
                refine lv_iconst (v := iI (1)) hx hb dX7_readShift_139 rfl ?_
                refine j_iadd hx hb dX7_readShift_140 ?_
                refine j_iast hx hb hK hP hD hS 3 1 rfl rfl ⟨by omega, by omega⟩ (Nat.le_of_ble_eq_true rfl) dX7_readShift_141 (fun H locs hP hD hS => ?_)
                have hP : va_P D vwCl (wT q C th ta x6 sm tape now snaps x4 zz x0 x1 x2 x3 x7 x5 zk zl (up r1 2 ((r1 2) + 1)) sa) H := hP
                have hD : va_D A (wT q C th ta x6 sm tape now snaps x4 zz x0 x1 x2 x3 x7 x5 zk zl (up r1 2 ((r1 2) + 1)) sa) := hD
                refine lv_aload_n hx hb dX7_readShift_142 rfl (lv_at hl 1 rfl) ?_
                refine CI_callV0 (As := []) (rest := []) ⟨hx, hb, hml, hown, hts⟩ (c_X7_readEnd (sq := 3) (si := 1) (spo := p1) (sfr := f1) (sto := o1) (sln := l1) (sea := a1) (snd := zk) (sli := sli) (sg := r1) hb9 hz L1 (Or.inr rfl) (fun _ z => c119 ⟨z.1, by omega⟩)) (cwV 0 hts gX7_readShift_X7_readEnd rfl rfl rfl (by decide +kernel) ⟨Nat.le_of_ble_eq_true rfl, Nat.le_of_ble_eq_true rfl⟩) (q0 := 0) rfl rfl rfl hK hNW hP hD hS hA rfl hl.1 rfl (Nat.le_of_ble_eq_true rfl) dX7_readShift_143 ⟨Nat.zero_le _, Nat.zero_le _⟩ (fun r ⟨t143, f143, s143, n143, w143, fa143, zh143⟩ H locs hw9 hP hD hS => ?_)
                obtain ⟨z143, hr9, hw9⟩ := hw9
                subst hr9
                have hz143 : EP tape zz (3, 1, p1, f1, o1, l1, a1, zk, sli, r1) e1 x0 x6 z143 t143 f143 s143 n143 w143 fa143 zh143 (2, 1, p1, f1, o1, l1, a1, zk, sli + 1, up r1 2 (r1 2 + 1)) := hw9
                have zb143 : z143 = 0 ∨ z143 = 1 := hz143.elim (fun z => Or.inl z.1) (fun z => Or.inr z.1)
                have hP : va_P D vwCl (wT q C th ta fa143 sm tape now snaps w143 zz t143 f143 s143 n143 zh143 x5 zk zl (up r1 2 ((r1 2) + 1)) sa) H := hP
                have hD : va_D A (wT q C th ta fa143 sm tape now snaps w143 zz t143 f143 s143 n143 zh143 x5 zk zl (up r1 2 ((r1 2) + 1)) sa) := hD
                have m5 := (MI_3 M1).2.2
                exact hret H locs ls 146 _ (t143, f143, s143, n143, w143, x5, fa143, zh143, up r1 2 ((r1 2) + 1)) dX7_readShift_146 (b01z zb143) ⟨z143, rfl, hz143.elim (fun z => Or.inl ⟨z.1, W1.trans z.2⟩) (fun z => Or.inr ⟨z.1, by show fa143 = fa; have := z.2.1; omega, x0, p1, f1, o1, l1, a1, by have := z.2.2.2.1; omega, z.2.2.1, m5, W1.trans z.2.2.2.2⟩)⟩ hP hD hS
              · skip
                refine lv_aload_n hx hb dX7_readShift_122 rfl (lv_at hl 1 rfl) ?_
                refine lv_iload_n hx hb dX7_readShift_123 rfl (lv_at hl 0 rfl) ?_
                refine CI_callV0 (As := [.int (iI (148 + (5 * (rd 2))))]) (rest := []) ⟨hx, hb, hml, hown, hts⟩ (c_X7_readPause (spo := p1) (sfr := f1) (sto := o1) (sln := l1) (sea := a1) (sli := sli) hb9 hz L1 M1 ⟨c119.1, by omega⟩ (by omega)) (cwV 1 hts gX7_readShift_X7_readPause rfl rfl rfl (by decide +kernel) ⟨Nat.le_of_ble_eq_true rfl, Nat.le_of_ble_eq_true rfl⟩) (q0 := 0) rfl rfl rfl hK hNW hP hD hS hA rfl hl.1 rfl (Nat.le_of_ble_eq_true rfl) dX7_readShift_124 ⟨Nat.zero_le _, Nat.zero_le _⟩ (fun r ⟨t124, f124, s124, n124, w124, g124, fa124, zh124, r124⟩ H locs hw9 hP hD hS => ?_)
                obtain ⟨z124, hr9, hw9, hv9⟩ := hw9
                subst hr9
                have hz124 : RN tape zz (3, 1, p1, f1, o1, l1, a1, zk, sli, r1) e1 x6 z124 t124 f124 s124 n124 w124 fa124 zh124 3 1 zk sli r124 := hw9
                have hv124 : z124 = 1 → r124 2 = r1 2 := hv9
                have zb124 : z124 = 0 ∨ z124 = 1 := hz124.elim (fun z => Or.inl z.1) (fun z => Or.inr z.1)
                have hP : va_P D vwCl (wT q C th ta fa124 sm tape now snaps w124 zz t124 f124 s124 n124 zh124 g124 zk zl r124 sa) H := hP
                have hD : va_D A (wT q C th ta fa124 sm tape now snaps w124 zz t124 f124 s124 n124 zh124 g124 zk zl r124 sa) := hD
                refine j_if_ne (tgt := 102) hx hb dX7_readShift_127 rfl ⟨by omega, by omega⟩ (fun c127 => ?_) (fun c127 => ?_)
                · skip
                  have ok124 := (hz124.resolve_left (fun z => c127 z.1)).2
                  obtain ⟨fa9, e9, p9, f9, o9, l9, a9, ok9⟩ := ok124
                  exact ih102 t124 f124 s124 n124 w124 g124 fa124 zh124 r124 e9 p9 f9 o9 l9 a9 ls H locs ok9.2.1 ok9.2.2.1 (W1.trans ok9.2.2.2) ⟨by omega, by have := hv124 (by omega); omega, by have := ok9.1; omega⟩ (by have := ok9.1; have := ok9.2.1.1; omega) (lv_sub hl [0, 1] rfl) hP hD hS
                · skip
                  have no124 := (hz124.resolve_right (fun z => by have := z.1; omega)).2
                  refine lv_iconst (v := iI (0)) hx hb dX7_readShift_130 rfl ?_
                  exact hret H locs ls 131 _ (t124, f124, s124, n124, w124, g124, fa124, zh124, r124) dX7_readShift_131 (Or.inl rfl) ⟨0, rfl, Or.inl ⟨rfl, W1.trans no124⟩⟩ hP hD hS
          have e102 : up r80 (148 + 5 * rd 2 + 4) (r80 3) = up (up r60 (150 + 5 * r60 2) n60) (152 + 5 * r60 2) (r60 3) := by rw [show r80 3 = r60 3 by rw [e80]; exact up_n _ _ (by omega), show 148 + 5 * rd 2 + 4 = 152 + 5 * r60 2 by omega, e80]
          rw [e102] at hP hD
          exact L102 _ t80 f80 s80 n80 w80 g80 fa80 zh80 (up (up r60 (150 + 5 * r60 2) n60) (152 + 5 * r60 2) (r60 3)) t60 n18 n47 n60 sln sea ls H locs ok80.2.2.2.2.1 m3 w3 ⟨by have := ok47.2.2.2.1; have := ok60.2.2.2.1; have := ok80.2.2.2.1; omega, by rw [up_n _ _ (by omega), up_n _ _ (by omega)]; exact b2, by have := ok47.2.2.2.2.2.1; have := ok60.2.2.2.2.2.1; have := ok80.2.2.2.2.2.1; omega⟩ (Nat.lt_succ_self _) (lv_sub hl [0, 1] rfl) hP hD hS
        · skip
          have no80 := (hz80.resolve_right (fun z => by have := z.1; omega)).2
          refine lv_iconst (v := iI (0)) hx hb dX7_readShift_86 rfl ?_
          exact hret H locs ls 87 _ (t80, f80, s80, n80, w80, g80, fa80, zh80, r80) dX7_readShift_87 (Or.inl rfl) ⟨0, rfl, Or.inl ⟨rfl, w2.trans no80⟩⟩ hP hD hS
  · skip
    refine lv_aload_n hx hb dX7_readShift_11 rfl (lv_at hl 0 rfl) ?_
    refine lv_iconst (v := iI (3)) hx hb dX7_readShift_12 rfl ?_
    refine CI_callV0 (As := [.int (iI (3))]) (rest := []) ⟨hx, hb, hml, hown, hts⟩ (c_X7_bad ⟨by omega, by omega⟩) (cwV 1 hts gX7_readShift_X7_bad rfl rfl rfl (by decide +kernel) ⟨Nat.le_of_ble_eq_true rfl, Nat.le_of_ble_eq_true rfl⟩) (q0 := 0) rfl rfl rfl hK hNW hP hD hS hA rfl hl.1 rfl (Nat.le_of_ble_eq_true rfl) dX7_readShift_13 ⟨Nat.zero_le _, Nat.zero_le _⟩ (fun r b13 H locs hw9 hP hD hS => ?_)
    obtain ⟨hr9, hb13⟩ := hw9
    subst hr9
    have hP : va_P D vwCl (wT q C th ta b13 sm tape now snaps wz zz zt zf zs zn zf zg zk zl rd sa) H := hP
    have hD : va_D A (wT q C th ta b13 sm tape now snaps wz zz zt zf zs zn zf zg zk zl rd sa) := hD
    exact hret H locs ls 16 _ (zt, zf, zs, zn, wz, zg, b13, zf, rd) dX7_readShift_16 (Or.inl rfl) ⟨0, rfl, Or.inl ⟨rfl, by show _ = Sum.inl (b13, zf); rw [hb13, if_neg (by omega)]; exact lw.1 3 (by rw [wd, if_pos (show 8 ≤ rd 2 by omega)])⟩⟩ hP hD hS
