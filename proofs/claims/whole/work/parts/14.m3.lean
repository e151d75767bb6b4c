def feedF (ta : Int) (tape : Int → Int) (z1 z2 z3 z4 z5 : Int) : Int × Int × (Int → Int) := if ta + 20 ≤ 640 then (ta + 4 + 4 + 4 + 4 + 4, ta + 4 + 4 + 4 + 4 + 4, lay20 tape ta z1 z2 z3 z4 z5) else (-1, ta, tape)
theorem wy_00 {g : Int → Int} {k t : Int} (h : wy g k t = 0) : g (190 + 5 * k) ≤ t ∧ t ≤ g (191 + 5 * k) := Classical.byContradiction fun q => by rw [wy_1 q] at h; omega
theorem sh_R {g : Int → Int} (h : Wf g) {s w : Int} (h0 : 0 ≤ s) (h1 : s < g 2) (h2 : 0 ≤ w) (h3 : w ≤ 4) : R32 (g (148 + 5 * s + w)) := by
  have b := Wf_sh h h0 h1
  have n := Wf_n h
  rcases (show w = 0 ∨ w = 1 ∨ w = 2 ∨ w = 3 ∨ w = 4 by omega) with e | e | e | e | e <;> subst e
  · rw [show 148 + 5 * s + 0 = 148 + 5 * s by omega]; exact ⟨by omega, by omega⟩
  · rw [show 148 + 5 * s + 1 = 149 + 5 * s by omega]; exact ⟨by omega, by omega⟩
  · rw [show 148 + 5 * s + 2 = 150 + 5 * s by omega]; exact ⟨by omega, by omega⟩
  · rw [show 148 + 5 * s + 3 = 151 + 5 * s by omega]; exact ⟨by omega, by omega⟩
  · rw [show 148 + 5 * s + 4 = 152 + 5 * s by omega]; exact ⟨by omega, by omega⟩
theorem pa_R4 {g : Int → Int} (h : Wf g) {k : Int} (h0 : 0 ≤ k) (h1 : k < g 3) : R32 (g (192 + 5 * k) - 1) := by
  have b := Wf_p h h0 h1
  exact ⟨by omega, by omega⟩
theorem pa_R {g : Int → Int} (h : Wf g) {k w : Int} (h0 : 0 ≤ k) (h1 : k < g 3) (h2 : 0 ≤ w) (h3 : w ≤ 4) : R32 (g (188 + 5 * k + w)) := by
  have b := Wf_p h h0 h1
  rcases (show w = 0 ∨ w = 1 ∨ w = 2 ∨ w = 3 ∨ w = 4 by omega) with e | e | e | e | e <;> subst e
  · rw [show 188 + 5 * k + 0 = 188 + 5 * k by omega]; exact ⟨by omega, by omega⟩
  · rw [show 188 + 5 * k + 1 = 189 + 5 * k by omega]; exact ⟨by omega, by omega⟩
  · rw [show 188 + 5 * k + 2 = 190 + 5 * k by omega]; exact ⟨by omega, by omega⟩
  · rw [show 188 + 5 * k + 3 = 191 + 5 * k by omega]; exact ⟨by omega, by omega⟩
  · rw [show 188 + 5 * k + 4 = 192 + 5 * k by omega]; exact ⟨by omega, by omega⟩
theorem betterOf_R {g : Int → Int} (h : Wf g) : R32 (betterOf g) := by
  have n := Wf_n h
  rcases betterOf_rng h with a | ⟨k, t, a, b, c, d, f, i⟩
  · rw [a]; exact ⟨by decide, by decide⟩
  · have p := Wf_p h b c
    rw [a]; exact ⟨by omega, by omega⟩
theorem stl_s {g : Int → Int} {i : Int} (h : 0 ≤ i) : stl g (i + 1).toNat = if betterOf (stl g i.toNat).2 = -2 then stl g i.toNat else (i + 1, mv (stl g i.toNat).2) := by
  rw [show (i + 1).toNat = i.toNat + 1 by omega]
  show (if betterOf (stl g i.toNat).2 = -2 then stl g i.toNat else (((i.toNat : Nat) : Int) + 1, mv (stl g i.toNat).2)) = _
  rw [Int.toNat_of_nonneg h]
theorem stl_40 {g : Int → Int} {i : Int} (h : 0 ≤ i ∧ i ≤ 40) (hb : betterOf (stl g i.toNat).2 = -2) : stl g 40 = stl g i.toNat := by
  have := stl_stop hb (40 - i.toNat)
  rw [show i.toNat + (40 - i.toNat) = 40 by omega] at this
  exact this
set_option maxHeartbeats 4000000 in
set_option maxRecDepth 100000 in
theorem c_X7_lays {l : Launch} {D : va_G} {C : Nat → ClassId} {q : Nat → Nat} {th ta fa sm : Int} {tape now snaps : Int → Int} {wo : Int64} {sc : Nat → Int} {sa : Nat → Int → Int} {zz : Int} (h0 : 0 ≤ ta) (h1 : ta + 4 ≤ 640) : CV (S := Unit) l yX7_lays wsX7_lays 0 0 D C [.ref (q 36), .int (iI (zz))] (wM q C th ta fa sm tape now snaps wo sc sa) (fun _ => wM q C th (ta + 4) fa sm (lay4 tape ta zz) now snaps wo sc sa) (fun _ => True) := by
  refine CV_of (cc := cX7_lays) (maxL := 3) (by decide) rfl (Nat.le_of_ble_eq_true rfl) ?_
  intro p e s m below meth c A Q ls hx hb hml hown hts hK hNW hA hl hP hD hS hret
  have hl : lv_has ls 3 [(0, .ref (q 36)), (1, .int (iI (zz)))] := hl
  refine lv_bipush (v := iI (24)) hx hb dX7_lays_0 (by decide) ?_
  refine lv_istore_n (lv' := [(2, .int (iI (24))), (0, .ref (q 36)), (1, .int (iI (zz)))]) hx hb dX7_lays_2 rfl hl (by decide) rfl (fun ls hl => ?_)
  refine lv_iload_n hx hb dX7_lays_3 rfl (lv_at hl 0 rfl) ?_
  refine j_if_lt (tgt := 39) hx hb dX7_lays_4 rfl ⟨by decide, by decide⟩ (fun c4 => ?_) (fun c4 => ?_)
  · exact absurd c4 (by decide)
  · skip
    refine lv_aload_n hx hb dX7_lays_7 rfl (lv_at hl 1 rfl) ?_
    refine va_get (D := D) (ci := 7) (v := .ref (q 37)) (C := RX7) (T := TX7) (N := 23) hx hb hts (by decide +kernel) hown hK hP 0 rfl rfl 1 (by decide) (hts (.fieldLink RX7 7 "BreakSetterModel" "tape" "[I") (by decide +kernel)) (fun _ h9 => h9) rfl dX7_lays_8 ?_
    refine lv_aload_n hx hb dX7_lays_11 rfl (lv_at hl 1 rfl) ?_
    refine va_get (D := D) (ci := 7) (v := .int (iI (ta))) (C := RX7) (T := TX7) (N := 23) hx hb hts (by decide +kernel) hown hK hP 0 rfl rfl 2 (by decide) (hts (.fieldLink RX7 11 "BreakSetterModel" "taped" "I") (by decide +kernel)) (fun _ h9 => h9) rfl dX7_lays_12 ?_
    refine lv_iload_n hx hb dX7_lays_15 rfl (lv_at hl 2 rfl) ?_
    refine lv_iload_n hx hb dX7_lays_16 rfl (lv_at hl 0 rfl) ?_
    refine lv_iushr hx hb dX7_lays_17 rfl ?_
    refine lv_sipush (v := iI (255)) hx hb dX7_lays_18 (by decide) ?_
    refine lv_iand hx hb dX7_lays_21 ?_
    refine W_wen (y := iI (by4 zz 24)) (by4_u zz 24 (iI (24)) (by decide)) ?_
    refine j_iast hx hb hK hP hD hS 1 1 rfl rfl ⟨by omega, by omega⟩ (Nat.le_of_ble_eq_true rfl) dX7_lays_22 (fun H locs hP hD hS => ?_)
    have hP : va_P D vwCl (wM q C th ta fa sm (up tape ta (by4 zz 24)) now snaps wo sc sa) H := hP
    have hD : va_D A (wM q C th ta fa sm (up tape ta (by4 zz 24)) now snaps wo sc sa) := hD
    refine lv_aload_n hx hb dX7_lays_23 rfl (lv_at hl 1 rfl) ?_
    refine lv_dup hx hb dX7_lays_24 rfl ?_
    refine va_get (D := D) (ci := 7) (v := .int (iI (ta))) (C := RX7) (T := TX7) (N := 23) hx hb hts (by decide +kernel) hown hK hP 0 rfl rfl 2 (by decide) (hts (.fieldLink RX7 11 "BreakSetterModel" "taped" "I") (by decide +kernel)) (fun _ h9 => h9) rfl dX7_lays_25 ?_
    refine lv_iconst (v := iI (1)) hx hb dX7_lays_28 rfl ?_
    refine j_iadd hx hb dX7_lays_29 ?_
    refine va_put (D := D) (ci := 7) (v := .int (iI (ta + 1))) (ty := .int) (C := RX7) (T := TX7) (N := 23) hx hb hts (by decide +kernel) tyX7 tyX7_ok nmX7 hown hK hP hD hS 0 rfl rfl 2 (by decide) (hts (.fieldLink RX7 11 "BreakSetterModel" "taped" "I") (by decide +kernel)) (fun _ h9 => h9) rfl (by decide +kernel) rfl rfl (Nat.le_of_ble_eq_true rfl) dX7_lays_30 (fun H locs hP hD hS => ?_)
    have hP : va_P D vwCl (wM q C th (ta + 1) fa sm (up tape ta (by4 zz 24)) now snaps wo sc sa) H := hP
    have hD : va_D A (wM q C th (ta + 1) fa sm (up tape ta (by4 zz 24)) now snaps wo sc sa) := hD
    refine j_iinc (k := 0) (lv' := [(2, .int (iI (16))), (0, .ref (q 36)), (1, .int (iI (zz)))]) hx hb dX7_lays_33 hl rfl (by decide) rfl (fun ls hl => ?_)
    refine lv_goto (tgt := 3) hx hb dX7_lays_36 rfl ?_
    refine lv_iload_n hx hb dX7_lays_3 rfl (lv_at hl 0 rfl) ?_
    refine j_if_lt (tgt := 39) hx hb dX7_lays_4 rfl ⟨by decide, by decide⟩ (fun c4 => ?_) (fun c4 => ?_)
    · exact absurd c4 (by decide)
    · skip
      refine lv_aload_n hx hb dX7_lays_7 rfl (lv_at hl 1 rfl) ?_
      refine va_get (D := D) (ci := 7) (v := .ref (q 37)) (C := RX7) (T := TX7) (N := 23) hx hb hts (by decide +kernel) hown hK hP 0 rfl rfl 1 (by decide) (hts (.fieldLink RX7 7 "BreakSetterModel" "tape" "[I") (by decide +kernel)) (fun _ h9 => h9) rfl dX7_lays_8 ?_
      refine lv_aload_n hx hb dX7_lays_11 rfl (lv_at hl 1 rfl) ?_
      refine va_get (D := D) (ci := 7) (v := .int (iI (ta + 1))) (C := RX7) (T := TX7) (N := 23) hx hb hts (by decide +kernel) hown hK hP 0 rfl rfl 2 (by decide) (hts (.fieldLink RX7 11 "BreakSetterModel" "taped" "I") (by decide +kernel)) (fun _ h9 => h9) rfl dX7_lays_12 ?_
      refine lv_iload_n hx hb dX7_lays_15 rfl (lv_at hl 2 rfl) ?_
      refine lv_iload_n hx hb dX7_lays_16 rfl (lv_at hl 0 rfl) ?_
      refine lv_iushr hx hb dX7_lays_17 rfl ?_
      refine lv_sipush (v := iI (255)) hx hb dX7_lays_18 (by decide) ?_
      refine lv_iand hx hb dX7_lays_21 ?_
      refine W_wen (y := iI (by4 zz 16)) (by4_u zz 16 (iI (16)) (by decide)) ?_
      refine j_iast hx hb hK hP hD hS 1 1 rfl rfl ⟨by omega, by omega⟩ (Nat.le_of_ble_eq_true rfl) dX7_lays_22 (fun H locs hP hD hS => ?_)
      have hP : va_P D vwCl (wM q C th (ta + 1) fa sm (up (up tape ta (by4 zz 24)) (ta + 1) (by4 zz 16)) now snaps wo sc sa) H := hP
      have hD : va_D A (wM q C th (ta + 1) fa sm (up (up tape ta (by4 zz 24)) (ta + 1) (by4 zz 16)) now snaps wo sc sa) := hD
      refine lv_aload_n hx hb dX7_lays_23 rfl (lv_at hl 1 rfl) ?_
      refine lv_dup hx hb dX7_lays_24 rfl ?_
      refine va_get (D := D) (ci := 7) (v := .int (iI (ta + 1))) (C := RX7) (T := TX7) (N := 23) hx hb hts (by decide +kernel) hown hK hP 0 rfl rfl 2 (by decide) (hts (.fieldLink RX7 11 "BreakSetterModel" "taped" "I") (by decide +kernel)) (fun _ h9 => h9) rfl dX7_lays_25 ?_
      refine lv_iconst (v := iI (1)) hx hb dX7_lays_28 rfl ?_
      refine j_iadd hx hb dX7_lays_29 ?_
      refine va_put (D := D) (ci := 7) (v := .int (iI ((ta + 1) + 1))) (ty := .int) (C := RX7) (T := TX7) (N := 23) hx hb hts (by decide +kernel) tyX7 tyX7_ok nmX7 hown hK hP hD hS 0 rfl rfl 2 (by decide) (hts (.fieldLink RX7 11 "BreakSetterModel" "taped" "I") (by decide +kernel)) (fun _ h9 => h9) rfl (by decide +kernel) rfl rfl (Nat.le_of_ble_eq_true rfl) dX7_lays_30 (fun H locs hP hD hS => ?_)
      have hP : va_P D vwCl (wM q C th ((ta + 1) + 1) fa sm (up (up tape ta (by4 zz 24)) (ta + 1) (by4 zz 16)) now snaps wo sc sa) H := hP
      have hD : va_D A (wM q C th ((ta + 1) + 1) fa sm (up (up tape ta (by4 zz 24)) (ta + 1) (by4 zz 16)) now snaps wo sc sa) := hD
      refine j_iinc (k := 0) (lv' := [(2, .int (iI (8))), (0, .ref (q 36)), (1, .int (iI (zz)))]) hx hb dX7_lays_33 hl rfl (by decide) rfl (fun ls hl => ?_)
      refine lv_goto (tgt := 3) hx hb dX7_lays_36 rfl ?_
      refine lv_iload_n hx hb dX7_lays_3 rfl (lv_at hl 0 rfl) ?_
      refine j_if_lt (tgt := 39) hx hb dX7_lays_4 rfl ⟨by decide, by decide⟩ (fun c4 => ?_) (fun c4 => ?_)
      · exact absurd c4 (by decide)
      · skip
        refine lv_aload_n hx hb dX7_lays_7 rfl (lv_at hl 1 rfl) ?_
        refine va_get (D := D) (ci := 7) (v := .ref (q 37)) (C := RX7) (T := TX7) (N := 23) hx hb hts (by decide +kernel) hown hK hP 0 rfl rfl 1 (by decide) (hts (.fieldLink RX7 7 "BreakSetterModel" "tape" "[I") (by decide +kernel)) (fun _ h9 => h9) rfl dX7_lays_8 ?_
        refine lv_aload_n hx hb dX7_lays_11 rfl (lv_at hl 1 rfl) ?_
        refine va_get (D := D) (ci := 7) (v := .int (iI ((ta + 1) + 1))) (C := RX7) (T := TX7) (N := 23) hx hb hts (by decide +kernel) hown hK hP 0 rfl rfl 2 (by decide) (hts (.fieldLink RX7 11 "BreakSetterModel" "taped" "I") (by decide +kernel)) (fun _ h9 => h9) rfl dX7_lays_12 ?_
        refine lv_iload_n hx hb dX7_lays_15 rfl (lv_at hl 2 rfl) ?_
        refine lv_iload_n hx hb dX7_lays_16 rfl (lv_at hl 0 rfl) ?_
        refine lv_iushr hx hb dX7_lays_17 rfl ?_
        refine lv_sipush (v := iI (255)) hx hb dX7_lays_18 (by decide) ?_
        refine lv_iand hx hb dX7_lays_21 ?_
        refine W_wen (y := iI (by4 zz 8)) (by4_u zz 8 (iI (8)) (by decide)) ?_
        refine j_iast hx hb hK hP hD hS 1 1 rfl rfl ⟨by omega, by omega⟩ (Nat.le_of_ble_eq_true rfl) dX7_lays_22 (fun H locs hP hD hS => ?_)
        have hP : va_P D vwCl (wM q C th ((ta + 1) + 1) fa sm (up (up (up tape ta (by4 zz 24)) (ta + 1) (by4 zz 16)) ((ta + 1) + 1) (by4 zz 8)) now snaps wo sc sa) H := hP
        have hD : va_D A (wM q C th ((ta + 1) + 1) fa sm (up (up (up tape ta (by4 zz 24)) (ta + 1) (by4 zz 16)) ((ta + 1) + 1) (by4 zz 8)) now snaps wo sc sa) := hD
        refine lv_aload_n hx hb dX7_lays_23 rfl (lv_at hl 1 rfl) ?_
        refine lv_dup hx hb dX7_lays_24 rfl ?_
        refine va_get (D := D) (ci := 7) (v := .int (iI ((ta + 1) + 1))) (C := RX7) (T := TX7) (N := 23) hx hb hts (by decide +kernel) hown hK hP 0 rfl rfl 2 (by decide) (hts (.fieldLink RX7 11 "BreakSetterModel" "taped" "I") (by decide +kernel)) (fun _ h9 => h9) rfl dX7_lays_25 ?_
        refine lv_iconst (v := iI (1)) hx hb dX7_lays_28 rfl ?_
        refine j_iadd hx hb dX7_lays_29 ?_
        refine va_put (D := D) (ci := 7) (v := .int (iI (((ta + 1) + 1) + 1))) (ty := .int) (C := RX7) (T := TX7) (N := 23) hx hb hts (by decide +kernel) tyX7 tyX7_ok nmX7 hown hK hP hD hS 0 rfl rfl 2 (by decide) (hts (.fieldLink RX7 11 "BreakSetterModel" "taped" "I") (by decide +kernel)) (fun _ h9 => h9) rfl (by decide +kernel) rfl rfl (Nat.le_of_ble_eq_true rfl) dX7_lays_30 (fun H locs hP hD hS => ?_)
        have hP : va_P D vwCl (wM q C th (((ta + 1) + 1) + 1) fa sm (up (up (up tape ta (by4 zz 24)) (ta + 1) (by4 zz 16)) ((ta + 1) + 1) (by4 zz 8)) now snaps wo sc sa) H := hP
        have hD : va_D A (wM q C th (((ta + 1) + 1) + 1) fa sm (up (up (up tape ta (by4 zz 24)) (ta + 1) (by4 zz 16)) ((ta + 1) + 1) (by4 zz 8)) now snaps wo sc sa) := hD
        refine j_iinc (k := 0) (lv' := [(2, .int (iI (0))), (0, .ref (q 36)), (1, .int (iI (zz)))]) hx hb dX7_lays_33 hl rfl (by decide) rfl (fun ls hl => ?_)
        refine lv_goto (tgt := 3) hx hb dX7_lays_36 rfl ?_
        refine lv_iload_n hx hb dX7_lays_3 rfl (lv_at hl 0 rfl) ?_
        refine j_if_lt (tgt := 39) hx hb dX7_lays_4 rfl ⟨by decide, by decide⟩ (fun c4 => ?_) (fun c4 => ?_)
        · exact absurd c4 (by decide)
        · skip
          refine lv_aload_n hx hb dX7_lays_7 rfl (lv_at hl 1 rfl) ?_
          refine va_get (D := D) (ci := 7) (v := .ref (q 37)) (C := RX7) (T := TX7) (N := 23) hx hb hts (by decide +kernel) hown hK hP 0 rfl rfl 1 (by decide) (hts (.fieldLink RX7 7 "BreakSetterModel" "tape" "[I") (by decide +kernel)) (fun _ h9 => h9) rfl dX7_lays_8 ?_
          refine lv_aload_n hx hb dX7_lays_11 rfl (lv_at hl 1 rfl) ?_
          refine va_get (D := D) (ci := 7) (v := .int (iI (((ta + 1) + 1) + 1))) (C := RX7) (T := TX7) (N := 23) hx hb hts (by decide +kernel) hown hK hP 0 rfl rfl 2 (by decide) (hts (.fieldLink RX7 11 "BreakSetterModel" "taped" "I") (by decide +kernel)) (fun _ h9 => h9) rfl dX7_lays_12 ?_
          refine lv_iload_n hx hb dX7_lays_15 rfl (lv_at hl 2 rfl) ?_
          refine lv_iload_n hx hb dX7_lays_16 rfl (lv_at hl 0 rfl) ?_
          refine lv_iushr hx hb dX7_lays_17 rfl ?_
          refine lv_sipush (v := iI (255)) hx hb dX7_lays_18 (by decide) ?_
          refine lv_iand hx hb dX7_lays_21 ?_
          refine W_wen (y := iI (by4 zz 0)) (by4_u zz 0 (iI (0)) (by decide)) ?_
          refine j_iast hx hb hK hP hD hS 1 1 rfl rfl ⟨by omega, by omega⟩ (Nat.le_of_ble_eq_true rfl) dX7_lays_22 (fun H locs hP hD hS => ?_)
          have hP : va_P D vwCl (wM q C th (((ta + 1) + 1) + 1) fa sm (up (up (up (up tape ta (by4 zz 24)) (ta + 1) (by4 zz 16)) ((ta + 1) + 1) (by4 zz 8)) (((ta + 1) + 1) + 1) (by4 zz 0)) now snaps wo sc sa) H := hP
          have hD : va_D A (wM q C th (((ta + 1) + 1) + 1) fa sm (up (up (up (up tape ta (by4 zz 24)) (ta + 1) (by4 zz 16)) ((ta + 1) + 1) (by4 zz 8)) (((ta + 1) + 1) + 1) (by4 zz 0)) now snaps wo sc sa) := hD
          refine lv_aload_n hx hb dX7_lays_23 rfl (lv_at hl 1 rfl) ?_
          refine lv_dup hx hb dX7_lays_24 rfl ?_
          refine va_get (D := D) (ci := 7) (v := .int (iI (((ta + 1) + 1) + 1))) (C := RX7) (T := TX7) (N := 23) hx hb hts (by decide +kernel) hown hK hP 0 rfl rfl 2 (by decide) (hts (.fieldLink RX7 11 "BreakSetterModel" "taped" "I") (by decide +kernel)) (fun _ h9 => h9) rfl dX7_lays_25 ?_
          refine lv_iconst (v := iI (1)) hx hb dX7_lays_28 rfl ?_
          refine j_iadd hx hb dX7_lays_29 ?_
          refine va_put (D := D) (ci := 7) (v := .int (iI ((((ta + 1) + 1) + 1) + 1))) (ty := .int) (C := RX7) (T := TX7) (N := 23) hx hb hts (by decide +kernel) tyX7 tyX7_ok nmX7 hown hK hP hD hS 0 rfl rfl 2 (by decide) (hts (.fieldLink RX7 11 "BreakSetterModel" "taped" "I") (by decide +kernel)) (fun _ h9 => h9) rfl (by decide +kernel) rfl rfl (Nat.le_of_ble_eq_true rfl) dX7_lays_30 (fun H locs hP hD hS => ?_)
          have hP : va_P D vwCl (wM q C th ((((ta + 1) + 1) + 1) + 1) fa sm (up (up (up (up tape ta (by4 zz 24)) (ta + 1) (by4 zz 16)) ((ta + 1) + 1) (by4 zz 8)) (((ta + 1) + 1) + 1) (by4 zz 0)) now snaps wo sc sa) H := hP
          have hD : va_D A (wM q C th ((((ta + 1) + 1) + 1) + 1) fa sm (up (up (up (up tape ta (by4 zz 24)) (ta + 1) (by4 zz 16)) ((ta + 1) + 1) (by4 zz 8)) (((ta + 1) + 1) + 1) (by4 zz 0)) now snaps wo sc sa) := hD
          refine j_iinc (k := 0) (lv' := [(2, .int (iI (-8))), (0, .ref (q 36)), (1, .int (iI (zz)))]) hx hb dX7_lays_33 hl rfl (by decide) rfl (fun ls hl => ?_)
          refine lv_goto (tgt := 3) hx hb dX7_lays_36 rfl ?_
          refine lv_iload_n hx hb dX7_lays_3 rfl (lv_at hl 0 rfl) ?_
          refine j_if_lt (tgt := 39) hx hb dX7_lays_4 rfl ⟨by decide, by decide⟩ (fun c4 => ?_) (fun c4 => ?_)
          · skip
            rw [show ta + 1 + 1 + 1 + 1 = ta + 4 by omega] at hP hD
            exact hret H locs ls 39 () dX7_lays_39 trivial hP hD hS
          · exact absurd c4 (by decide)

set_option maxHeartbeats 4000000 in
set_option maxRecDepth 100000 in
theorem c_X7_feed {l : Launch} {D : va_G} {C : Nat → ClassId} {q : Nat → Nat} {th ta fa sm : Int} {tape now snaps : Int → Int} {wo : Int64} {sc : Nat → Int} {sa : Nat → Int → Int} {z1 z2 z3 z4 z5 : Int} (h0 : 0 ≤ ta ∧ ta ≤ 640) : CI (S := Int × (Int → Int)) l yX7_feed wsX7_feed 1 22 D C [.ref (q 36), .int (iI (z1)), .int (iI (z2)), .int (iI (z3)), .int (iI (z4)), .int (iI (z5))] (wM q C th ta fa sm tape now snaps wo sc sa) (fun u => wM q C 0 (u.1) fa sm (u.2) now snaps wo sc sa) (fun r u => r = iI (feedF ta tape z1 z2 z3 z4 z5).1 ∧ u = (feedF ta tape z1 z2 z3 z4 z5).2) := by
  refine CI_of (cc := cX7_feed) (maxL := 6) (by decide) rfl (Nat.le_of_ble_eq_true rfl) ?_
  intro p e s m below meth c A Q ls hx hb hml hown hts hK hNW hA hl hP hD hS hret
  have hl : lv_has ls 6 [(0, .ref (q 36)), (1, .int (iI (z1))), (2, .int (iI (z2))), (3, .int (iI (z3))), (4, .int (iI (z4))), (5, .int (iI (z5)))] := hl
  refine lv_aload_n hx hb dX7_feed_0 rfl (lv_at hl 0 rfl) ?_
  refine lv_iconst (v := iI (0)) hx hb dX7_feed_1 rfl ?_
  refine va_put (D := D) (ci := 7) (v := .int (iI (0))) (ty := .int) (C := RX7) (T := TX7) (N := 23) hx hb hts (by decide +kernel) tyX7 tyX7_ok nmX7 hown hK hP hD hS 0 rfl rfl 0 (by decide) (hts (.fieldLink RX7 1 "BreakSetterModel" "thrown" "I") (by decide +kernel)) (fun _ h9 => h9) rfl (by decide +kernel) rfl rfl (Nat.le_of_ble_eq_true rfl) dX7_feed_2 (fun H locs hP hD hS => ?_)
  have hP : va_P D vwCl (wM q C 0 ta fa sm tape now snaps wo sc sa) H := hP
  have hD : va_D A (wM q C 0 ta fa sm tape now snaps wo sc sa) := hD
  refine lv_aload_n hx hb dX7_feed_5 rfl (lv_at hl 0 rfl) ?_
  refine va_get (D := D) (ci := 7) (v := .int (iI (ta))) (C := RX7) (T := TX7) (N := 23) hx hb hts (by decide +kernel) hown hK hP 0 rfl rfl 2 (by decide) (hts (.fieldLink RX7 11 "BreakSetterModel" "taped" "I") (by decide +kernel)) (fun _ h9 => h9) rfl dX7_feed_6 ?_
  refine lv_bipush (v := iI (20)) hx hb dX7_feed_9 (by decide) ?_
  refine j_iadd hx hb dX7_feed_11 ?_
  refine lv_sipush (v := iI (640)) hx hb dX7_feed_12 (by decide) ?_
  refine j_icmp_le (tgt := 20) hx hb dX7_feed_15 rfl ⟨by omega, by omega⟩ ⟨by decide, by decide⟩ (fun c15 => ?_) (fun c15 => ?_)
  · skip
    refine lv_aload_n hx hb dX7_feed_20 rfl (lv_at hl 0 rfl) ?_
    refine lv_iload_n hx hb dX7_feed_21 rfl (lv_at hl 1 rfl) ?_
    refine CV_callV0 (As := [.int (iI (z1))]) (rest := []) ⟨hx, hb, hml, hown, hts⟩ (c_X7_lays (by omega) (by omega)) (cwV 1 hts gX7_feed_X7_lays rfl rfl rfl (by decide +kernel) ⟨Nat.le_of_ble_eq_true rfl, Nat.le_of_ble_eq_true rfl⟩) (q0 := 0) rfl rfl rfl hK hNW hP hD hS hA rfl hl.1 rfl (Nat.le_of_ble_eq_true rfl) dX7_feed_22 ⟨Nat.zero_le _, Nat.zero_le _⟩ (fun u H locs hw9 hP hD hS => ?_)
    have hP : va_P D vwCl (wM q C 0 (ta + 4) fa sm (lay4 tape ta z1) now snaps wo sc sa) H := hP
    have hD : va_D A (wM q C 0 (ta + 4) fa sm (lay4 tape ta z1) now snaps wo sc sa) := hD
    refine lv_aload_n hx hb dX7_feed_25 rfl (lv_at hl 0 rfl) ?_
    refine lv_iload_n hx hb dX7_feed_26 rfl (lv_at hl 2 rfl) ?_
    refine CV_callV0 (As := [.int (iI (z2))]) (rest := []) ⟨hx, hb, hml, hown, hts⟩ (c_X7_lays (by omega) (by omega)) (cwV 1 hts gX7_feed_X7_lays rfl rfl rfl (by decide +kernel) ⟨Nat.le_of_ble_eq_true rfl, Nat.le_of_ble_eq_true rfl⟩) (q0 := 0) rfl rfl rfl hK hNW hP hD hS hA rfl hl.1 rfl (Nat.le_of_ble_eq_true rfl) dX7_feed_27 ⟨Nat.zero_le _, Nat.zero_le _⟩ (fun u H locs hw9 hP hD hS => ?_)
    have hP : va_P D vwCl (wM q C 0 ((ta + 4) + 4) fa sm (lay4 (lay4 tape ta z1) (ta + 4) z2) now snaps wo sc sa) H := hP
    have hD : va_D A (wM q C 0 ((ta + 4) + 4) fa sm (lay4 (lay4 tape ta z1) (ta + 4) z2) now snaps wo sc sa) := hD
    refine lv_aload_n hx hb dX7_feed_30 rfl (lv_at hl 0 rfl) ?_
    refine lv_iload_n hx hb dX7_feed_31 rfl (lv_at hl 3 rfl) ?_
    refine CV_callV0 (As := [.int (iI (z3))]) (rest := []) ⟨hx, hb, hml, hown, hts⟩ (c_X7_lays (by omega) (by omega)) (cwV 1 hts gX7_feed_X7_lays rfl rfl rfl (by decide +kernel) ⟨Nat.le_of_ble_eq_true rfl, Nat.le_of_ble_eq_true rfl⟩) (q0 := 0) rfl rfl rfl hK hNW hP hD hS hA rfl hl.1 rfl (Nat.le_of_ble_eq_true rfl) dX7_feed_32 ⟨Nat.zero_le _, Nat.zero_le _⟩ (fun u H locs hw9 hP hD hS => ?_)
    have hP : va_P D vwCl (wM q C 0 (((ta + 4) + 4) + 4) fa sm (lay4 (lay4 (lay4 tape ta z1) (ta + 4) z2) ((ta + 4) + 4) z3) now snaps wo sc sa) H := hP
    have hD : va_D A (wM q C 0 (((ta + 4) + 4) + 4) fa sm (lay4 (lay4 (lay4 tape ta z1) (ta + 4) z2) ((ta + 4) + 4) z3) now snaps wo sc sa) := hD
    refine lv_aload_n hx hb dX7_feed_35 rfl (lv_at hl 0 rfl) ?_
    refine lv_iload hx hb dX7_feed_36 (lv_at hl 4 rfl) ?_
    refine CV_callV0 (As := [.int (iI (z4))]) (rest := []) ⟨hx, hb, hml, hown, hts⟩ (c_X7_lays (by omega) (by omega)) (cwV 1 hts gX7_feed_X7_lays rfl rfl rfl (by decide +kernel) ⟨Nat.le_of_ble_eq_true rfl, Nat.le_of_ble_eq_true rfl⟩) (q0 := 0) rfl rfl rfl hK hNW hP hD hS hA rfl hl.1 rfl (Nat.le_of_ble_eq_true rfl) dX7_feed_38 ⟨Nat.zero_le _, Nat.zero_le _⟩ (fun u H locs hw9 hP hD hS => ?_)
    have hP : va_P D vwCl (wM q C 0 ((((ta + 4) + 4) + 4) + 4) fa sm (lay4 (lay4 (lay4 (lay4 tape ta z1) (ta + 4) z2) ((ta + 4) + 4) z3) (((ta + 4) + 4) + 4) z4) now snaps wo sc sa) H := hP
    have hD : va_D A (wM q C 0 ((((ta + 4) + 4) + 4) + 4) fa sm (lay4 (lay4 (lay4 (lay4 tape ta z1) (ta + 4) z2) ((ta + 4) + 4) z3) (((ta + 4) + 4) + 4) z4) now snaps wo sc sa) := hD
    refine lv_aload_n hx hb dX7_feed_41 rfl (lv_at hl 0 rfl) ?_
    refine lv_iload hx hb dX7_feed_42 (lv_at hl 5 rfl) ?_
    refine CV_callV0 (As := [.int (iI (z5))]) (rest := []) ⟨hx, hb, hml, hown, hts⟩ (c_X7_lays (by omega) (by omega)) (cwV 1 hts gX7_feed_X7_lays rfl rfl rfl (by decide +kernel) ⟨Nat.le_of_ble_eq_true rfl, Nat.le_of_ble_eq_true rfl⟩) (q0 := 0) rfl rfl rfl hK hNW hP hD hS hA rfl hl.1 rfl (Nat.le_of_ble_eq_true rfl) dX7_feed_44 ⟨Nat.zero_le _, Nat.zero_le _⟩ (fun u H locs hw9 hP hD hS => ?_)
    have hP : va_P D vwCl (wM q C 0 (((((ta + 4) + 4) + 4) + 4) + 4) fa sm (lay4 (lay4 (lay4 (lay4 (lay4 tape ta z1) (ta + 4) z2) ((ta + 4) + 4) z3) (((ta + 4) + 4) + 4) z4) ((((ta + 4) + 4) + 4) + 4) z5) now snaps wo sc sa) H := hP
    have hD : va_D A (wM q C 0 (((((ta + 4) + 4) + 4) + 4) + 4) fa sm (lay4 (lay4 (lay4 (lay4 (lay4 tape ta z1) (ta + 4) z2) ((ta + 4) + 4) z3) (((ta + 4) + 4) + 4) z4) ((((ta + 4) + 4) + 4) + 4) z5) now snaps wo sc sa) := hD
    refine lv_aload_n hx hb dX7_feed_47 rfl (lv_at hl 0 rfl) ?_
    refine va_get (D := D) (ci := 7) (v := .int (iI (((((ta + 4) + 4) + 4) + 4) + 4))) (C := RX7) (T := TX7) (N := 23) hx hb hts (by decide +kernel) hown hK hP 0 rfl rfl 2 (by decide) (hts (.fieldLink RX7 11 "BreakSetterModel" "taped" "I") (by decide +kernel)) (fun _ h9 => h9) rfl dX7_feed_48 ?_
    exact hret H locs ls 51 _ (((((ta + 4) + 4) + 4) + 4) + 4, lay4 (lay4 (lay4 (lay4 (lay4 tape ta z1) (ta + 4) z2) ((ta + 4) + 4) z3) (((ta + 4) + 4) + 4) z4) ((((ta + 4) + 4) + 4) + 4) z5) dX7_feed_51 ⟨by unfold feedF; rw [if_pos (by omega)], by unfold feedF; rw [if_pos (by omega)]; rfl⟩ hP hD hS
  · skip
    refine lv_iconst (v := iI (-1)) hx hb dX7_feed_18 rfl ?_
    exact hret H locs ls 19 _ (ta, tape) dX7_feed_19 ⟨by unfold feedF; rw [if_neg (by omega)], by unfold feedF; rw [if_neg (by omega)]⟩ hP hD hS

set_option maxHeartbeats 4000000 in
set_option maxRecDepth 100000 in
theorem c_X7_end {l : Launch} {D : va_G} {C : Nat → ClassId} {q : Nat → Nat} {th ta fa sm : Int} {tape now snaps : Int → Int} {wo : Int64} {sc : Nat → Int} {sa : Nat → Int → Int} {zz : Int} (hz : R32 zz) (h0 : 0 ≤ ta ∧ ta ≤ 640) : CI (S := Int) l yX7_end wsX7_end 0 0 D C [.ref (q 36), .int (iI (zz))] (wM q C th ta fa sm tape now snaps wo sc sa) (fun u => wM q C 0 u fa sm tape now snaps wo sc sa) (fun r u => r = iI (bI (0 ≤ zz ∧ zz ≤ ta)) ∧ u = if 0 ≤ zz ∧ zz ≤ ta then zz else ta) := by
  refine CZ_of (cc := cX7_end) (maxL := 2) (by decide) rfl (Nat.le_of_ble_eq_true rfl) ?_
  intro p e s m below meth c A Q ls hx hb hml hown hts hK hNW hA hl hP hD hS hret
  have hl : lv_has ls 2 [(0, .ref (q 36)), (1, .int (iI (zz)))] := hl
  refine lv_aload_n hx hb dX7_end_0 rfl (lv_at hl 0 rfl) ?_
  refine lv_iconst (v := iI (0)) hx hb dX7_end_1 rfl ?_
  refine va_put (D := D) (ci := 7) (v := .int (iI (0))) (ty := .int) (C := RX7) (T := TX7) (N := 23) hx hb hts (by decide +kernel) tyX7 tyX7_ok nmX7 hown hK hP hD hS 0 rfl rfl 0 (by decide) (hts (.fieldLink RX7 1 "BreakSetterModel" "thrown" "I") (by decide +kernel)) (fun _ h9 => h9) rfl (by decide +kernel) rfl rfl (Nat.le_of_ble_eq_true rfl) dX7_end_2 (fun H locs hP hD hS => ?_)
  have hP : va_P D vwCl (wM q C 0 ta fa sm tape now snaps wo sc sa) H := hP
  have hD : va_D A (wM q C 0 ta fa sm tape now snaps wo sc sa) := hD
  refine lv_iload_n hx hb dX7_end_5 rfl (lv_at hl 1 rfl) ?_
  refine j_if_lt (tgt := 17) hx hb dX7_end_6 rfl hz (fun c6 => ?_) (fun c6 => ?_)
  · skip
    refine lv_iconst (v := iI (0)) hx hb dX7_end_17 rfl ?_
    exact hret H locs ls 18 _ ta dX7_end_18 (Or.inl rfl) ⟨by rw [bI_f (by omega)], by rw [if_neg (by omega)]⟩ hP hD hS
  · skip
    refine lv_iload_n hx hb dX7_end_9 rfl (lv_at hl 1 rfl) ?_
    refine lv_aload_n hx hb dX7_end_10 rfl (lv_at hl 0 rfl) ?_
    refine va_get (D := D) (ci := 7) (v := .int (iI (ta))) (C := RX7) (T := TX7) (N := 23) hx hb hts (by decide +kernel) hown hK hP 0 rfl rfl 2 (by decide) (hts (.fieldLink RX7 11 "BreakSetterModel" "taped" "I") (by decide +kernel)) (fun _ h9 => h9) rfl dX7_end_11 ?_
    refine j_icmp_le (tgt := 19) hx hb dX7_end_14 rfl hz ⟨by omega, by omega⟩ (fun c14 => ?_) (fun c14 => ?_)
    · skip
      refine lv_aload_n hx hb dX7_end_19 rfl (lv_at hl 0 rfl) ?_
      refine lv_iload_n hx hb dX7_end_20 rfl (lv_at hl 1 rfl) ?_
      refine va_put (D := D) (ci := 7) (v := .int (iI (zz))) (ty := .int) (C := RX7) (T := TX7) (N := 23) hx hb hts (by decide +kernel) tyX7 tyX7_ok nmX7 hown hK hP hD hS 0 rfl rfl 2 (by decide) (hts (.fieldLink RX7 11 "BreakSetterModel" "taped" "I") (by decide +kernel)) (fun _ h9 => h9) rfl (by decide +kernel) rfl rfl (Nat.le_of_ble_eq_true rfl) dX7_end_21 (fun H locs hP hD hS => ?_)
      have hP : va_P D vwCl (wM q C 0 zz fa sm tape now snaps wo sc sa) H := hP
      have hD : va_D A (wM q C 0 zz fa sm tape now snaps wo sc sa) := hD
      refine lv_iconst (v := iI (1)) hx hb dX7_end_24 rfl ?_
      exact hret H locs ls 25 _ zz dX7_end_25 (Or.inr rfl) ⟨by rw [bI_t ⟨by omega, by omega⟩], by rw [if_pos ⟨by omega, by omega⟩]⟩ hP hD hS
    · skip
      refine lv_iconst (v := iI (0)) hx hb dX7_end_17 rfl ?_
      exact hret H locs ls 18 _ ta dX7_end_18 (Or.inl rfl) ⟨by rw [bI_f (by omega)], by rw [if_neg (by omega)]⟩ hP hD hS

set_option maxHeartbeats 4000000 in
set_option maxRecDepth 100000 in
theorem c_X7_fault {l : Launch} {D : va_G} {C : Nat → ClassId} {q : Nat → Nat} {th ta fa sm : Int} {tape now snaps : Int → Int} {wo : Int64} {sc : Nat → Int} {sa : Nat → Int → Int}  : CI (S := Unit) l yX7_fault wsX7_fault 0 0 D C [.ref (q 36)] (wM q C th ta fa sm tape now snaps wo sc sa) (fun _ => wM q C 0 ta fa sm tape now snaps wo sc sa) (fun r _ => r = iI (fa)) := by
  refine CI_of (cc := cX7_fault) (maxL := 1) (by decide) rfl (Nat.le_of_ble_eq_true rfl) ?_
  intro p e s m below meth c A Q ls hx hb hml hown hts hK hNW hA hl hP hD hS hret
  have hl : lv_has ls 1 [(0, .ref (q 36))] := hl
  refine lv_aload_n hx hb dX7_fault_0 rfl (lv_at hl 0 rfl) ?_
  refine lv_iconst (v := iI (0)) hx hb dX7_fault_1 rfl ?_
  refine va_put (D := D) (ci := 7) (v := .int (iI (0))) (ty := .int) (C := RX7) (T := TX7) (N := 23) hx hb hts (by decide +kernel) tyX7 tyX7_ok nmX7 hown hK hP hD hS 0 rfl rfl 0 (by decide) (hts (.fieldLink RX7 1 "BreakSetterModel" "thrown" "I") (by decide +kernel)) (fun _ h9 => h9) rfl (by decide +kernel) rfl rfl (Nat.le_of_ble_eq_true rfl) dX7_fault_2 (fun H locs hP hD hS => ?_)
  have hP : va_P D vwCl (wM q C 0 ta fa sm tape now snaps wo sc sa) H := hP
  have hD : va_D A (wM q C 0 ta fa sm tape now snaps wo sc sa) := hD
  refine lv_aload_n hx hb dX7_fault_5 rfl (lv_at hl 0 rfl) ?_
  refine va_get (D := D) (ci := 7) (v := .int (iI (fa))) (C := RX7) (T := TX7) (N := 23) hx hb hts (by decide +kernel) hown hK hP 0 rfl rfl 8 (by decide) (hts (.fieldLink RX7 62 "BreakSetterModel" "fault" "I") (by decide +kernel)) (fun _ h9 => h9) rfl dX7_fault_6 ?_
  exact hret H locs ls 9 _ () dX7_fault_9 rfl hP hD hS

set_option maxHeartbeats 4000000 in
set_option maxRecDepth 100000 in
theorem c_X7_now {l : Launch} {D : va_G} {C : Nat → ClassId} {q : Nat → Nat} {th ta fa sm : Int} {tape now snaps : Int → Int} {wo : Int64} {sc : Nat → Int} {sa : Nat → Int → Int} (hg : Wf now) {zz : Int} (hz : R32 zz) : CI (S := Unit) l yX7_now wsX7_now 7 157 D C [.ref (q 36), .int (iI (zz))] (wM q C th ta fa sm tape now snaps wo sc sa) (fun _ => wM q C 0 ta fa sm tape now snaps wo sc sa) (fun r _ => r = iI (nowF now sm ta zz)) := by
  refine CI_of (cc := cX7_now) (maxL := 2) (by decide) rfl (Nat.le_of_ble_eq_true rfl) ?_
  intro p e s m below meth c A Q ls hx hb hml hown hts hK hNW hA hl hP hD hS hret
  have hl : lv_has ls 2 [(0, .ref (q 36)), (1, .int (iI (zz)))] := hl
  refine lv_aload_n hx hb dX7_now_0 rfl (lv_at hl 0 rfl) ?_
  refine lv_iconst (v := iI (0)) hx hb dX7_now_1 rfl ?_
  refine va_put (D := D) (ci := 7) (v := .int (iI (0))) (ty := .int) (C := RX7) (T := TX7) (N := 23) hx hb hts (by decide +kernel) tyX7 tyX7_ok nmX7 hown hK hP hD hS 0 rfl rfl 0 (by decide) (hts (.fieldLink RX7 1 "BreakSetterModel" "thrown" "I") (by decide +kernel)) (fun _ h9 => h9) rfl (by decide +kernel) rfl rfl (Nat.le_of_ble_eq_true rfl) dX7_now_2 (fun H locs hP hD hS => ?_)
  have hP : va_P D vwCl (wM q C 0 ta fa sm tape now snaps wo sc sa) H := hP
  have hD : va_D A (wM q C 0 ta fa sm tape now snaps wo sc sa) := hD
  refine lv_iload_n hx hb dX7_now_5 rfl (lv_at hl 1 rfl) ?_
  by_cases hsw : 0 ≤ zz ∧ zz ≤ 7
  · skip
    obtain ⟨hsw1, hsw2⟩ := hsw
    rcases (show zz = 0 ∨ zz = 1 ∨ zz = 2 ∨ zz = 3 ∨ zz = 4 ∨ zz = 5 ∨ zz = 6 ∨ zz = 7 by omega) with hsw | hsw | hsw | hsw | hsw | hsw | hsw | hsw
    · skip
      refine j_swIn (k := 0) (off := 46) (tgt := 52) hx hb dX7_now_6 hsw (by decide) (by decide) rfl rfl ?_
      refine lv_aload_n hx hb dX7_now_52 rfl (lv_at hl 0 rfl) ?_
      refine va_get (D := D) (ci := 7) (v := .ref (q 38)) (C := RX7) (T := TX7) (N := 23) hx hb hts (by decide +kernel) hown hK hP 0 rfl rfl 11 (by decide) (hts (.fieldLink RX7 74 "BreakSetterModel" "now" "[I") (by decide +kernel)) (fun _ h9 => h9) rfl dX7_now_53 ?_
      refine lv_iconst (v := iI (0)) hx hb dX7_now_56 rfl ?_
      refine j_iald hx hb hK hP 2 1 rfl rfl ⟨by omega, by omega⟩ (Nat.le_of_ble_eq_true rfl) dX7_now_57 ?_
      exact hret H locs ls 58 _ () dX7_now_58 (by subst hsw; rfl) hP hD hS
    · skip
      refine j_swIn (k := 1) (off := 53) (tgt := 59) hx hb dX7_now_6 hsw (by decide) (by decide) rfl rfl ?_
      refine lv_aload_n hx hb dX7_now_59 rfl (lv_at hl 0 rfl) ?_
      refine va_get (D := D) (ci := 7) (v := .ref (q 38)) (C := RX7) (T := TX7) (N := 23) hx hb hts (by decide +kernel) hown hK hP 0 rfl rfl 11 (by decide) (hts (.fieldLink RX7 74 "BreakSetterModel" "now" "[I") (by decide +kernel)) (fun _ h9 => h9) rfl dX7_now_60 ?_
      refine lv_iconst (v := iI (2)) hx hb dX7_now_63 rfl ?_
      refine j_iald hx hb hK hP 2 1 rfl rfl ⟨by omega, by omega⟩ (Nat.le_of_ble_eq_true rfl) dX7_now_64 ?_
      exact hret H locs ls 65 _ () dX7_now_65 (by subst hsw; rfl) hP hD hS
    · skip
      refine j_swIn (k := 2) (off := 60) (tgt := 66) hx hb dX7_now_6 hsw (by decide) (by decide) rfl rfl ?_
      refine lv_aload_n hx hb dX7_now_66 rfl (lv_at hl 0 rfl) ?_
      refine va_get (D := D) (ci := 7) (v := .ref (q 38)) (C := RX7) (T := TX7) (N := 23) hx hb hts (by decide +kernel) hown hK hP 0 rfl rfl 11 (by decide) (hts (.fieldLink RX7 74 "BreakSetterModel" "now" "[I") (by decide +kernel)) (fun _ h9 => h9) rfl dX7_now_67 ?_
      refine lv_iconst (v := iI (3)) hx hb dX7_now_70 rfl ?_
      refine j_iald hx hb hK hP 2 1 rfl rfl ⟨by omega, by omega⟩ (Nat.le_of_ble_eq_true rfl) dX7_now_71 ?_
      exact hret H locs ls 72 _ () dX7_now_72 (by subst hsw; rfl) hP hD hS
    · skip
      refine j_swIn (k := 3) (off := 67) (tgt := 73) hx hb dX7_now_6 hsw (by decide) (by decide) rfl rfl ?_
      refine lv_aload_n hx hb dX7_now_73 rfl (lv_at hl 0 rfl) ?_
      refine CR_callV (As := []) (rest := []) ⟨hx, hb, hml, hown, hts⟩ (c_X7_placed MN_wM hg ) (cwV 0 hts gX7_now_X7_placed rfl rfl rfl (by decide +kernel) ⟨Nat.le_of_ble_eq_true rfl, Nat.le_of_ble_eq_true rfl⟩) (q0 := 0) rfl rfl rfl hK hNW hP rfl hl.1 rfl (Nat.le_of_ble_eq_true rfl) dX7_now_74 ⟨Nat.zero_le _, Nat.zero_le _⟩ ?_
      exact hret H locs ls 77 _ () dX7_now_77 (by subst hsw; rfl) hP hD hS
    · skip
      refine j_swIn (k := 4) (off := 72) (tgt := 78) hx hb dX7_now_6 hsw (by decide) (by decide) rfl rfl ?_
      refine lv_aload_n hx hb dX7_now_78 rfl (lv_at hl 0 rfl) ?_
      refine CR_callV (As := []) (rest := []) ⟨hx, hb, hml, hown, hts⟩ (c_X7_shortfall MN_wM hg ) (cwV 0 hts gX7_now_X7_shortfall rfl rfl rfl (by decide +kernel) ⟨Nat.le_of_ble_eq_true rfl, Nat.le_of_ble_eq_true rfl⟩) (q0 := 0) rfl rfl rfl hK hNW hP rfl hl.1 rfl (Nat.le_of_ble_eq_true rfl) dX7_now_79 ⟨Nat.zero_le _, Nat.zero_le _⟩ ?_
      exact hret H locs ls 82 _ () dX7_now_82 (by subst hsw; rfl) hP hD hS
    · skip
      refine j_swIn (k := 5) (off := 77) (tgt := 83) hx hb dX7_now_6 hsw (by decide) (by decide) rfl rfl ?_
      refine lv_aload_n hx hb dX7_now_83 rfl (lv_at hl 0 rfl) ?_
      refine va_get (D := D) (ci := 7) (v := .ref (q 38)) (C := RX7) (T := TX7) (N := 23) hx hb hts (by decide +kernel) hown hK hP 0 rfl rfl 11 (by decide) (hts (.fieldLink RX7 74 "BreakSetterModel" "now" "[I") (by decide +kernel)) (fun _ h9 => h9) rfl dX7_now_84 ?_
      refine lv_iconst (v := iI (1)) hx hb dX7_now_87 rfl ?_
      refine j_iald hx hb hK hP 2 1 rfl rfl ⟨by omega, by omega⟩ (Nat.le_of_ble_eq_true rfl) dX7_now_88 ?_
      exact hret H locs ls 89 _ () dX7_now_89 (by subst hsw; rfl) hP hD hS
    · skip
      refine j_swIn (k := 6) (off := 84) (tgt := 90) hx hb dX7_now_6 hsw (by decide) (by decide) rfl rfl ?_
      refine lv_aload_n hx hb dX7_now_90 rfl (lv_at hl 0 rfl) ?_
      refine va_get (D := D) (ci := 7) (v := .int (iI (sm))) (C := RX7) (T := TX7) (N := 23) hx hb hts (by decide +kernel) hown hK hP 0 rfl rfl 14 (by decide) (hts (.fieldLink RX7 152 "BreakSetterModel" "snapMany" "I") (by decide +kernel)) (fun _ h9 => h9) rfl dX7_now_91 ?_
      exact hret H locs ls 94 _ () dX7_now_94 (by subst hsw; rfl) hP hD hS
    · skip
      refine j_swIn (k := 7) (off := 89) (tgt := 95) hx hb dX7_now_6 hsw (by decide) (by decide) rfl rfl ?_
      refine lv_aload_n hx hb dX7_now_95 rfl (lv_at hl 0 rfl) ?_
      refine va_get (D := D) (ci := 7) (v := .int (iI (ta))) (C := RX7) (T := TX7) (N := 23) hx hb hts (by decide +kernel) hown hK hP 0 rfl rfl 2 (by decide) (hts (.fieldLink RX7 11 "BreakSetterModel" "taped" "I") (by decide +kernel)) (fun _ h9 => h9) rfl dX7_now_96 ?_
      exact hret H locs ls 99 _ () dX7_now_99 (by subst hsw; rfl) hP hD hS
  · skip
    refine j_swOut (tgt := 100) hx hb dX7_now_6 hz (by omega) rfl ?_
    refine lv_iconst (v := iI (-1)) hx hb dX7_now_100 rfl ?_
    exact hret H locs ls 101 _ () dX7_now_101 (by unfold nowF; rw [if_neg (by omega), if_neg (by omega), if_neg (by omega), if_neg (by omega), if_neg (by omega), if_neg (by omega), if_neg (by omega), if_neg (by omega)]) hP hD hS

set_option maxHeartbeats 4000000 in
set_option maxRecDepth 100000 in
theorem c_X7_slot {l : Launch} {D : va_G} {C : Nat → ClassId} {q : Nat → Nat} {th ta fa sm : Int} {tape now snaps : Int → Int} {wo : Int64} {sc : Nat → Int} {sa : Nat → Int → Int} (hg : Wf now) {pp tt ww : Int} (hp : R32 pp) (ht : R32 tt) (hw0 : R32 ww) : CI (S := Unit) l yX7_slot wsX7_slot 5 112 D C [.ref (q 36), .int (iI (pp)), .int (iI (tt)), .int (iI (ww))] (wM q C th ta fa sm tape now snaps wo sc sa) (fun _ => wM q C 0 ta fa sm tape now snaps wo sc sa) (fun r _ => r = iI (slotF now pp tt ww)) := by
  refine CI_of (cc := cX7_slot) (maxL := 4) (by decide) rfl (Nat.le_of_ble_eq_true rfl) ?_
  intro p e s m below meth c A Q ls hx hb hml hown hts hK hNW hA hl hP hD hS hret
  have hl : lv_has ls 4 [(0, .ref (q 36)), (1, .int (iI (pp))), (2, .int (iI (tt))), (3, .int (iI (ww)))] := hl
  have n := Wf_n hg
  refine lv_aload_n hx hb dX7_slot_0 rfl (lv_at hl 0 rfl) ?_
  refine lv_iconst (v := iI (0)) hx hb dX7_slot_1 rfl ?_
  refine va_put (D := D) (ci := 7) (v := .int (iI (0))) (ty := .int) (C := RX7) (T := TX7) (N := 23) hx hb hts (by decide +kernel) tyX7 tyX7_ok nmX7 hown hK hP hD hS 0 rfl rfl 0 (by decide) (hts (.fieldLink RX7 1 "BreakSetterModel" "thrown" "I") (by decide +kernel)) (fun _ h9 => h9) rfl (by decide +kernel) rfl rfl (Nat.le_of_ble_eq_true rfl) dX7_slot_2 (fun H locs hP hD hS => ?_)
  have hP : va_P D vwCl (wM q C 0 ta fa sm tape now snaps wo sc sa) H := hP
  have hD : va_D A (wM q C 0 ta fa sm tape now snaps wo sc sa) := hD
  refine lv_aload_n hx hb dX7_slot_5 rfl (lv_at hl 0 rfl) ?_
  refine lv_iload_n hx hb dX7_slot_6 rfl (lv_at hl 1 rfl) ?_
  refine CR_callV (As := [.int (iI (pp))]) (rest := []) ⟨hx, hb, hml, hown, hts⟩ (c_X7_isPost MN_wM hg hp) (cwV 1 hts gX7_slot_X7_isPost rfl rfl rfl (by decide +kernel) ⟨Nat.le_of_ble_eq_true rfl, Nat.le_of_ble_eq_true rfl⟩) (q0 := 0) rfl rfl rfl hK hNW hP rfl hl.1 rfl (Nat.le_of_ble_eq_true rfl) dX7_slot_7 ⟨Nat.zero_le _, Nat.zero_le _⟩ ?_
  refine j_ifeqB (tgt := 20) hx hb dX7_slot_10 rfl (fun c10 => ?_) (fun c10 => ?_)
  · skip
    refine lv_iconst (v := iI (-1)) hx hb dX7_slot_20 rfl ?_
    exact hret H locs ls 21 _ () dX7_slot_21 (by unfold slotF; rw [if_neg (by omega)]) hP hD hS
  · skip
    refine lv_iload_n hx hb dX7_slot_13 rfl (lv_at hl 2 rfl) ?_
    refine CR_callS (As := [.int (iI (tt))]) (rest := []) ⟨hx, hb, hml, hown, hts⟩ (c_X7_isSlot ht) (cwS 1 hts gX7_slot_X7_isSlot rfl rfl rfl (by decide +kernel) ⟨Nat.le_of_ble_eq_true rfl, Nat.le_of_ble_eq_true rfl⟩) hK hNW hP rfl hl.1 rfl (Nat.le_of_ble_eq_true rfl) dX7_slot_14 ⟨Nat.zero_le _, Nat.zero_le _⟩ ?_
    refine j_ifneB (tgt := 22) hx hb dX7_slot_17 rfl (fun c17 => ?_) (fun c17 => ?_)
    · skip
      refine lv_iload_n hx hb dX7_slot_22 rfl (lv_at hl 3 rfl) ?_
      refine j_if_ne (tgt := 35) hx hb dX7_slot_23 rfl hw0 (fun c23 => ?_) (fun c23 => ?_)
      · skip
        refine lv_iload_n hx hb dX7_slot_35 rfl (lv_at hl 3 rfl) ?_
        refine lv_iconst (v := iI (1)) hx hb dX7_slot_36 rfl ?_
        refine j_icmp_ne (tgt := 49) hx hb dX7_slot_37 rfl hw0 ⟨by decide, by decide⟩ (fun c37 => ?_) (fun c37 => ?_)
        · skip
          refine lv_iload_n hx hb dX7_slot_49 rfl (lv_at hl 3 rfl) ?_
          refine lv_iconst (v := iI (2)) hx hb dX7_slot_50 rfl ?_
          refine j_icmp_ne (tgt := 63) hx hb dX7_slot_51 rfl hw0 ⟨by decide, by decide⟩ (fun c51 => ?_) (fun c51 => ?_)
          · skip
            refine lv_iconst (v := iI (-1)) hx hb dX7_slot_63 rfl ?_
            exact hret H locs ls 64 _ () dX7_slot_64 (by unfold slotF; rw [if_pos ⟨⟨by omega, by omega⟩, by omega, by omega⟩]; first | (rw [if_pos c23]; done) | (rw [if_neg c23, if_pos c37]; done) | (rw [if_neg c23, if_neg c37, if_pos c51]; done) | (rw [if_neg c23, if_neg c37, if_neg c51]; done)) hP hD hS
          · skip
            refine lv_aload_n hx hb dX7_slot_54 rfl (lv_at hl 0 rfl) ?_
            refine lv_iload_n hx hb dX7_slot_55 rfl (lv_at hl 1 rfl) ?_
            refine lv_iload_n hx hb dX7_slot_56 rfl (lv_at hl 2 rfl) ?_
            refine CR_callV (As := [.int (iI (pp)), .int (iI (tt))]) (rest := []) ⟨hx, hb, hml, hown, hts⟩ (c_X7_shortOf MN_wM hg (by omega) (by omega)) (cwV 2 hts gX7_slot_X7_shortOf rfl rfl rfl (by decide +kernel) ⟨Nat.le_of_ble_eq_true rfl, Nat.le_of_ble_eq_true rfl⟩) (q0 := 0) rfl rfl rfl hK hNW hP rfl hl.1 rfl (Nat.le_of_ble_eq_true rfl) dX7_slot_57 ⟨Nat.zero_le _, Nat.zero_le _⟩ ?_
            refine lv_goto (tgt := 64) hx hb dX7_slot_60 rfl ?_
            exact hret H locs ls 64 _ () dX7_slot_64 (by unfold slotF; rw [if_pos ⟨⟨by omega, by omega⟩, by omega, by omega⟩]; first | (rw [if_pos c23]; done) | (rw [if_neg c23, if_pos c37]; done) | (rw [if_neg c23, if_neg c37, if_pos c51]; done) | (rw [if_neg c23, if_neg c37, if_neg c51]; done)) hP hD hS
        · skip
          refine lv_aload_n hx hb dX7_slot_40 rfl (lv_at hl 0 rfl) ?_
          refine lv_iload_n hx hb dX7_slot_41 rfl (lv_at hl 1 rfl) ?_
          refine lv_iload_n hx hb dX7_slot_42 rfl (lv_at hl 2 rfl) ?_
          refine CR_callV (As := [.int (iI (pp)), .int (iI (tt))]) (rest := []) ⟨hx, hb, hml, hown, hts⟩ (c_X7_coverOf MN_wM hg (by omega) (by omega)) (cwV 2 hts gX7_slot_X7_coverOf rfl rfl rfl (by decide +kernel) ⟨Nat.le_of_ble_eq_true rfl, Nat.le_of_ble_eq_true rfl⟩) (q0 := 0) rfl rfl rfl hK hNW hP rfl hl.1 rfl (Nat.le_of_ble_eq_true rfl) dX7_slot_43 ⟨Nat.zero_le _, Nat.zero_le _⟩ ?_
          refine lv_goto (tgt := 64) hx hb dX7_slot_46 rfl ?_
          exact hret H locs ls 64 _ () dX7_slot_64 (by unfold slotF; rw [if_pos ⟨⟨by omega, by omega⟩, by omega, by omega⟩]; first | (rw [if_pos c23]; done) | (rw [if_neg c23, if_pos c37]; done)) hP hD hS
      · skip
        refine lv_aload_n hx hb dX7_slot_26 rfl (lv_at hl 0 rfl) ?_
        refine lv_iload_n hx hb dX7_slot_27 rfl (lv_at hl 1 rfl) ?_
        refine lv_iload_n hx hb dX7_slot_28 rfl (lv_at hl 2 rfl) ?_
        refine CR_callV (As := [.int (iI (pp)), .int (iI (tt))]) (rest := []) ⟨hx, hb, hml, hown, hts⟩ (c_X7_needOf MN_wM (by omega) (by omega)) (cwV 2 hts gX7_slot_X7_needOf rfl rfl rfl (by decide +kernel) ⟨Nat.le_of_ble_eq_true rfl, Nat.le_of_ble_eq_true rfl⟩) (q0 := 0) rfl rfl rfl hK hNW hP rfl hl.1 rfl (Nat.le_of_ble_eq_true rfl) dX7_slot_29 ⟨Nat.zero_le _, Nat.zero_le _⟩ ?_
        refine lv_goto (tgt := 64) hx hb dX7_slot_32 rfl ?_
        exact hret H locs ls 64 _ () dX7_slot_64 (by unfold slotF; rw [if_pos ⟨⟨by omega, by omega⟩, by omega, by omega⟩]; (rw [if_pos c23]; done)) hP hD hS
    · skip
      refine lv_iconst (v := iI (-1)) hx hb dX7_slot_20 rfl ?_
      exact hret H locs ls 21 _ () dX7_slot_21 (by unfold slotF; rw [if_neg (by omega)]) hP hD hS

set_option maxHeartbeats 4000000 in
set_option maxRecDepth 100000 in
theorem c_X7_why {l : Launch} {D : va_G} {C : Nat → ClassId} {q : Nat → Nat} {th ta fa sm : Int} {tape now snaps : Int → Int} {wo : Int64} {sc : Nat → Int} {sa : Nat → Int → Int} (hg : Wf now) {kk tt : Int} (hk : R32 kk) (ht : R32 tt) : CI (S := Unit) l yX7_why wsX7_why 3 66 D C [.ref (q 36), .int (iI (kk)), .int (iI (tt))] (wM q C th ta fa sm tape now snaps wo sc sa) (fun _ => wM q C 0 ta fa sm tape now snaps wo sc sa) (fun r _ => r = iI (whyF now kk tt)) := by
  refine CI_of (cc := cX7_why) (maxL := 3) (by decide) rfl (Nat.le_of_ble_eq_true rfl) ?_
  intro p e s m below meth c A Q ls hx hb hml hown hts hK hNW hA hl hP hD hS hret
  have hl : lv_has ls 3 [(0, .ref (q 36)), (1, .int (iI (kk))), (2, .int (iI (tt)))] := hl
  have n := Wf_n hg
  refine lv_aload_n hx hb dX7_why_0 rfl (lv_at hl 0 rfl) ?_
  refine lv_iconst (v := iI (0)) hx hb dX7_why_1 rfl ?_
  refine va_put (D := D) (ci := 7) (v := .int (iI (0))) (ty := .int) (C := RX7) (T := TX7) (N := 23) hx hb hts (by decide +kernel) tyX7 tyX7_ok nmX7 hown hK hP hD hS 0 rfl rfl 0 (by decide) (hts (.fieldLink RX7 1 "BreakSetterModel" "thrown" "I") (by decide +kernel)) (fun _ h9 => h9) rfl (by decide +kernel) rfl rfl (Nat.le_of_ble_eq_true rfl) dX7_why_2 (fun H locs hP hD hS => ?_)
  have hP : va_P D vwCl (wM q C 0 ta fa sm tape now snaps wo sc sa) H := hP
  have hD : va_D A (wM q C 0 ta fa sm tape now snaps wo sc sa) := hD
  refine lv_aload_n hx hb dX7_why_5 rfl (lv_at hl 0 rfl) ?_
  refine lv_iload_n hx hb dX7_why_6 rfl (lv_at hl 1 rfl) ?_
  refine CR_callV (As := [.int (iI (kk))]) (rest := []) ⟨hx, hb, hml, hown, hts⟩ (c_X7_isPause MN_wM hg hk) (cwV 1 hts gX7_why_X7_isPause rfl rfl rfl (by decide +kernel) ⟨Nat.le_of_ble_eq_true rfl, Nat.le_of_ble_eq_true rfl⟩) (q0 := 0) rfl rfl rfl hK hNW hP rfl hl.1 rfl (Nat.le_of_ble_eq_true rfl) dX7_why_7 ⟨Nat.zero_le _, Nat.zero_le _⟩ ?_
  refine j_ifeqB (tgt := 29) hx hb dX7_why_10 rfl (fun c10 => ?_) (fun c10 => ?_)
  · skip
    refine lv_iconst (v := iI (-1)) hx hb dX7_why_29 rfl ?_
    exact hret H locs ls 30 _ () dX7_why_30 (by unfold whyF; first | (rw [if_pos ⟨⟨by omega, by omega⟩, by omega, by omega⟩]; done) | (rw [if_neg (by omega)]; done)) hP hD hS
  · skip
    refine lv_iload_n hx hb dX7_why_13 rfl (lv_at hl 2 rfl) ?_
    refine CR_callS (As := [.int (iI (tt))]) (rest := []) ⟨hx, hb, hml, hown, hts⟩ (c_X7_isSlot ht) (cwS 1 hts gX7_why_X7_isSlot rfl rfl rfl (by decide +kernel) ⟨Nat.le_of_ble_eq_true rfl, Nat.le_of_ble_eq_true rfl⟩) hK hNW hP rfl hl.1 rfl (Nat.le_of_ble_eq_true rfl) dX7_why_14 ⟨Nat.zero_le _, Nat.zero_le _⟩ ?_
    refine j_ifeqB (tgt := 29) hx hb dX7_why_17 rfl (fun c17 => ?_) (fun c17 => ?_)
    · skip
      refine lv_iconst (v := iI (-1)) hx hb dX7_why_29 rfl ?_
      exact hret H locs ls 30 _ () dX7_why_30 (by unfold whyF; first | (rw [if_pos ⟨⟨by omega, by omega⟩, by omega, by omega⟩]; done) | (rw [if_neg (by omega)]; done)) hP hD hS
    · skip
      refine lv_aload_n hx hb dX7_why_20 rfl (lv_at hl 0 rfl) ?_
      refine lv_iload_n hx hb dX7_why_21 rfl (lv_at hl 1 rfl) ?_
      refine lv_iload_n hx hb dX7_why_22 rfl (lv_at hl 2 rfl) ?_
      refine CR_callV (As := [.int (iI (kk)), .int (iI (tt))]) (rest := []) ⟨hx, hb, hml, hown, hts⟩ (c_X7_whyNot MN_wM hg (by omega) (by omega)) (cwV 2 hts gX7_why_X7_whyNot rfl rfl rfl (by decide +kernel) ⟨Nat.le_of_ble_eq_true rfl, Nat.le_of_ble_eq_true rfl⟩) (q0 := 0) rfl rfl rfl hK hNW hP rfl hl.1 rfl (Nat.le_of_ble_eq_true rfl) dX7_why_23 ⟨Nat.zero_le _, Nat.zero_le _⟩ ?_
      refine lv_goto (tgt := 30) hx hb dX7_why_26 rfl ?_
      exact hret H locs ls 30 _ () dX7_why_30 (by unfold whyF; first | (rw [if_pos ⟨⟨by omega, by omega⟩, by omega, by omega⟩]; done) | (rw [if_neg (by omega)]; done)) hP hD hS

set_option maxHeartbeats 4000000 in
set_option maxRecDepth 100000 in
theorem c_X7_would {l : Launch} {D : va_G} {C : Nat → ClassId} {q : Nat → Nat} {th ta fa sm : Int} {tape now snaps : Int → Int} {wo : Int64} {sc : Nat → Int} {sa : Nat → Int → Int} (hg : Wf now) {kk tt : Int} (hk : R32 kk) (ht : R32 tt) : CI (S := Unit) l yX7_would wsX7_would 8 181 D C [.ref (q 36), .int (iI (kk)), .int (iI (tt))] (wM q C th ta fa sm tape now snaps wo sc sa) (fun _ => wM q C 0 ta fa sm tape now snaps wo sc sa) (fun r _ => r = iI (wouldF now kk tt)) := by
  refine CI_of (cc := cX7_would) (maxL := 3) (by decide) rfl (Nat.le_of_ble_eq_true rfl) ?_
  intro p e s m below meth c A Q ls hx hb hml hown hts hK hNW hA hl hP hD hS hret
  have hl : lv_has ls 3 [(0, .ref (q 36)), (1, .int (iI (kk))), (2, .int (iI (tt)))] := hl
  have n := Wf_n hg
  refine lv_aload_n hx hb dX7_would_0 rfl (lv_at hl 0 rfl) ?_
  refine lv_iconst (v := iI (0)) hx hb dX7_would_1 rfl ?_
  refine va_put (D := D) (ci := 7) (v := .int (iI (0))) (ty := .int) (C := RX7) (T := TX7) (N := 23) hx hb hts (by decide +kernel) tyX7 tyX7_ok nmX7 hown hK hP hD hS 0 rfl rfl 0 (by decide) (hts (.fieldLink RX7 1 "BreakSetterModel" "thrown" "I") (by decide +kernel)) (fun _ h9 => h9) rfl (by decide +kernel) rfl rfl (Nat.le_of_ble_eq_true rfl) dX7_would_2 (fun H locs hP hD hS => ?_)
  have hP : va_P D vwCl (wM q C 0 ta fa sm tape now snaps wo sc sa) H := hP
  have hD : va_D A (wM q C 0 ta fa sm tape now snaps wo sc sa) := hD
  refine lv_aload_n hx hb dX7_would_5 rfl (lv_at hl 0 rfl) ?_
  refine lv_iload_n hx hb dX7_would_6 rfl (lv_at hl 1 rfl) ?_
  refine CR_callV (As := [.int (iI (kk))]) (rest := []) ⟨hx, hb, hml, hown, hts⟩ (c_X7_isPause MN_wM hg hk) (cwV 1 hts gX7_would_X7_isPause rfl rfl rfl (by decide +kernel) ⟨Nat.le_of_ble_eq_true rfl, Nat.le_of_ble_eq_true rfl⟩) (q0 := 0) rfl rfl rfl hK hNW hP rfl hl.1 rfl (Nat.le_of_ble_eq_true rfl) dX7_would_7 ⟨Nat.zero_le _, Nat.zero_le _⟩ ?_
  refine j_ifeqB (tgt := 38) hx hb dX7_would_10 rfl (fun c10 => ?_) (fun c10 => ?_)
  · skip
    refine lv_iconst (v := iI (-1)) hx hb dX7_would_38 rfl ?_
    exact hret H locs ls 39 _ () dX7_would_39 (by unfold wouldF; (rw [if_neg (by omega)]; done)) hP hD hS
  · skip
    refine lv_iload_n hx hb dX7_would_13 rfl (lv_at hl 2 rfl) ?_
    refine CR_callS (As := [.int (iI (tt))]) (rest := []) ⟨hx, hb, hml, hown, hts⟩ (c_X7_isSlot ht) (cwS 1 hts gX7_would_X7_isSlot rfl rfl rfl (by decide +kernel) ⟨Nat.le_of_ble_eq_true rfl, Nat.le_of_ble_eq_true rfl⟩) hK hNW hP rfl hl.1 rfl (Nat.le_of_ble_eq_true rfl) dX7_would_14 ⟨Nat.zero_le _, Nat.zero_le _⟩ ?_
    refine j_ifeqB (tgt := 38) hx hb dX7_would_17 rfl (fun c17 => ?_) (fun c17 => ?_)
    · skip
      refine lv_iconst (v := iI (-1)) hx hb dX7_would_38 rfl ?_
      exact hret H locs ls 39 _ () dX7_would_39 (by unfold wouldF; (rw [if_neg (by omega)]; done)) hP hD hS
    · skip
      refine lv_aload_n hx hb dX7_would_20 rfl (lv_at hl 0 rfl) ?_
      refine lv_iload_n hx hb dX7_would_21 rfl (lv_at hl 1 rfl) ?_
      refine lv_iload_n hx hb dX7_would_22 rfl (lv_at hl 2 rfl) ?_
      refine CR_callV (As := [.int (iI (kk)), .int (iI (tt))]) (rest := []) ⟨hx, hb, hml, hown, hts⟩ (c_X7_whyNot MN_wM hg (by omega) (by omega)) (cwV 2 hts gX7_would_X7_whyNot rfl rfl rfl (by decide +kernel) ⟨Nat.le_of_ble_eq_true rfl, Nat.le_of_ble_eq_true rfl⟩) (q0 := 0) rfl rfl rfl hK hNW hP rfl hl.1 rfl (Nat.le_of_ble_eq_true rfl) dX7_would_23 ⟨Nat.zero_le _, Nat.zero_le _⟩ ?_
      have yy := wy_rng now kk tt
      refine j_if_ne (tgt := 38) hx hb dX7_would_26 rfl ⟨by omega, by omega⟩ (fun c26 => ?_) (fun c26 => ?_)
      · skip
        refine lv_iconst (v := iI (-1)) hx hb dX7_would_38 rfl ?_
        exact hret H locs ls 39 _ () dX7_would_39 (by unfold wouldF; first | (rw [if_pos ⟨⟨⟨by omega, by omega⟩, by omega, by omega⟩, c26⟩]; done) | (rw [if_neg (fun q => c26 q.2)]; done) | (rw [if_neg (by omega)]; done)) hP hD hS
      · skip
        refine lv_aload_n hx hb dX7_would_29 rfl (lv_at hl 0 rfl) ?_
        refine lv_iload_n hx hb dX7_would_30 rfl (lv_at hl 1 rfl) ?_
        refine lv_iload_n hx hb dX7_would_31 rfl (lv_at hl 2 rfl) ?_
        refine CI_callV0 (As := [.int (iI (kk)), .int (iI (tt))]) (rest := []) ⟨hx, hb, hml, hown, hts⟩ (c_X7_scoreAt hg c10 (wy_00 c26)) (cwV 2 hts gX7_would_X7_scoreAt rfl rfl rfl (by decide +kernel) ⟨Nat.le_of_ble_eq_true rfl, Nat.le_of_ble_eq_true rfl⟩) (q0 := 0) rfl rfl rfl hK hNW hP hD hS hA rfl hl.1 rfl (Nat.le_of_ble_eq_true rfl) dX7_would_32 ⟨Nat.zero_le _, Nat.zero_le _⟩ (fun r u H locs hw9 hP hD hS => ?_)
        have hw9 : r = iI (SF (lie now kk tt)) := hw9
        subst hw9
        have hP : va_P D vwCl (wM q C 0 ta fa sm tape now snaps wo sc sa) H := hP
        have hD : va_D A (wM q C 0 ta fa sm tape now snaps wo sc sa) := hD
        refine lv_goto (tgt := 39) hx hb dX7_would_35 rfl ?_
        exact hret H locs ls 39 _ () dX7_would_39 (by unfold wouldF; first | (rw [if_pos ⟨⟨⟨by omega, by omega⟩, by omega, by omega⟩, c26⟩]; done) | (rw [if_neg (fun q => c26 q.2)]; done) | (rw [if_neg (by omega)]; done)) hP hD hS

set_option maxHeartbeats 4000000 in
set_option maxRecDepth 100000 in
theorem c_X7_best {l : Launch} {D : va_G} {C : Nat → ClassId} {q : Nat → Nat} {th ta fa sm : Int} {tape now snaps : Int → Int} {wo : Int64} {sc : Nat → Int} {sa : Nat → Int → Int} (hg : Wf now) {kk : Int} (hk : R32 kk) : CI (S := Unit) l yX7_best wsX7_best 9 206 D C [.ref (q 36), .int (iI (kk))] (wM q C th ta fa sm tape now snaps wo sc sa) (fun _ => wM q C 0 ta fa sm tape now snaps wo sc sa) (fun r _ => r = iI (bestF now kk)) := by
  refine CI_of (cc := cX7_best) (maxL := 2) (by decide) rfl (Nat.le_of_ble_eq_true rfl) ?_
  intro p e s m below meth c A Q ls hx hb hml hown hts hK hNW hA hl hP hD hS hret
  have hl : lv_has ls 2 [(0, .ref (q 36)), (1, .int (iI (kk)))] := hl
  have n := Wf_n hg
  refine lv_aload_n hx hb dX7_best_0 rfl (lv_at hl 0 rfl) ?_
  refine lv_iconst (v := iI (0)) hx hb dX7_best_1 rfl ?_
  refine va_put (D := D) (ci := 7) (v := .int (iI (0))) (ty := .int) (C := RX7) (T := TX7) (N := 23) hx hb hts (by decide +kernel) tyX7 tyX7_ok nmX7 hown hK hP hD hS 0 rfl rfl 0 (by decide) (hts (.fieldLink RX7 1 "BreakSetterModel" "thrown" "I") (by decide +kernel)) (fun _ h9 => h9) rfl (by decide +kernel) rfl rfl (Nat.le_of_ble_eq_true rfl) dX7_best_2 (fun H locs hP hD hS => ?_)
  have hP : va_P D vwCl (wM q C 0 ta fa sm tape now snaps wo sc sa) H := hP
  have hD : va_D A (wM q C 0 ta fa sm tape now snaps wo sc sa) := hD
  refine lv_aload_n hx hb dX7_best_5 rfl (lv_at hl 0 rfl) ?_
  refine lv_iload_n hx hb dX7_best_6 rfl (lv_at hl 1 rfl) ?_
  refine CR_callV (As := [.int (iI (kk))]) (rest := []) ⟨hx, hb, hml, hown, hts⟩ (c_X7_isPause MN_wM hg hk) (cwV 1 hts gX7_best_X7_isPause rfl rfl rfl (by decide +kernel) ⟨Nat.le_of_ble_eq_true rfl, Nat.le_of_ble_eq_true rfl⟩) (q0 := 0) rfl rfl rfl hK hNW hP rfl hl.1 rfl (Nat.le_of_ble_eq_true rfl) dX7_best_7 ⟨Nat.zero_le _, Nat.zero_le _⟩ ?_
  refine j_ifeqB (tgt := 21) hx hb dX7_best_10 rfl (fun c10 => ?_) (fun c10 => ?_)
  · skip
    refine lv_iconst (v := iI (-1)) hx hb dX7_best_21 rfl ?_
    exact hret H locs ls 22 _ () dX7_best_22 (by unfold bestF; first | (rw [if_pos c10]; done) | (rw [if_neg c10]; done)) hP hD hS
  · skip
    refine lv_aload_n hx hb dX7_best_13 rfl (lv_at hl 0 rfl) ?_
    refine lv_iload_n hx hb dX7_best_14 rfl (lv_at hl 1 rfl) ?_
    refine CI_callV0 (As := [.int (iI (kk))]) (rest := []) ⟨hx, hb, hml, hown, hts⟩ (c_X7_bestOf hg c10) (cwV 1 hts gX7_best_X7_bestOf rfl rfl rfl (by decide +kernel) ⟨Nat.le_of_ble_eq_true rfl, Nat.le_of_ble_eq_true rfl⟩) (q0 := 0) rfl rfl rfl hK hNW hP hD hS hA rfl hl.1 rfl (Nat.le_of_ble_eq_true rfl) dX7_best_15 ⟨Nat.zero_le _, Nat.zero_le _⟩ (fun r u H locs hw9 hP hD hS => ?_)
    have hw9 : r = iI (bestOf now kk) := hw9
    subst hw9
    have hP : va_P D vwCl (wM q C 0 ta fa sm tape now snaps wo sc sa) H := hP
    have hD : va_D A (wM q C 0 ta fa sm tape now snaps wo sc sa) := hD
    refine lv_goto (tgt := 22) hx hb dX7_best_18 rfl ?_
    exact hret H locs ls 22 _ () dX7_best_22 (by unfold bestF; first | (rw [if_pos c10]; done) | (rw [if_neg c10]; done)) hP hD hS

set_option maxHeartbeats 4000000 in
set_option maxRecDepth 100000 in
theorem c_X7_better {l : Launch} {D : va_G} {C : Nat → ClassId} {q : Nat → Nat} {th ta fa sm : Int} {tape now snaps : Int → Int} {wo : Int64} {sc : Nat → Int} {sa : Nat → Int → Int} (hg : Wf now)  : CI (S := Unit) l yX7_better wsX7_better 9 206 D C [.ref (q 36)] (wM q C th ta fa sm tape now snaps wo sc sa) (fun _ => wM q C 0 ta fa sm tape now snaps wo sc sa) (fun r _ => r = iI (betterOf now)) := by
  refine CI_of (cc := cX7_better) (maxL := 1) (by decide) rfl (Nat.le_of_ble_eq_true rfl) ?_
  intro p e s m below meth c A Q ls hx hb hml hown hts hK hNW hA hl hP hD hS hret
  have hl : lv_has ls 1 [(0, .ref (q 36))] := hl
  refine lv_aload_n hx hb dX7_better_0 rfl (lv_at hl 0 rfl) ?_
  refine lv_iconst (v := iI (0)) hx hb dX7_better_1 rfl ?_
  refine va_put (D := D) (ci := 7) (v := .int (iI (0))) (ty := .int) (C := RX7) (T := TX7) (N := 23) hx hb hts (by decide +kernel) tyX7 tyX7_ok nmX7 hown hK hP hD hS 0 rfl rfl 0 (by decide) (hts (.fieldLink RX7 1 "BreakSetterModel" "thrown" "I") (by decide +kernel)) (fun _ h9 => h9) rfl (by decide +kernel) rfl rfl (Nat.le_of_ble_eq_true rfl) dX7_better_2 (fun H locs hP hD hS => ?_)
  have hP : va_P D vwCl (wM q C 0 ta fa sm tape now snaps wo sc sa) H := hP
  have hD : va_D A (wM q C 0 ta fa sm tape now snaps wo sc sa) := hD
  refine lv_aload_n hx hb dX7_better_5 rfl (lv_at hl 0 rfl) ?_
  refine CI_callV0 (As := []) (rest := []) ⟨hx, hb, hml, hown, hts⟩ (c_X7_betterNow hg) (cwV 0 hts gX7_better_X7_betterNow rfl rfl rfl (by decide +kernel) ⟨Nat.le_of_ble_eq_true rfl, Nat.le_of_ble_eq_true rfl⟩) (q0 := 0) rfl rfl rfl hK hNW hP hD hS hA rfl hl.1 rfl (Nat.le_of_ble_eq_true rfl) dX7_better_6 ⟨Nat.zero_le _, Nat.zero_le _⟩ (fun r u H locs hw9 hP hD hS => ?_)
  have hw9 : r = iI (betterOf now) := hw9
  subst hw9
  have hP : va_P D vwCl (wM q C 0 ta fa sm tape now snaps wo sc sa) H := hP
  have hD : va_D A (wM q C 0 ta fa sm tape now snaps wo sc sa) := hD
  exact hret H locs ls 9 _ () dX7_better_9 rfl hP hD hS

set_option maxHeartbeats 4000000 in
set_option maxRecDepth 100000 in
theorem c_X7_worst {l : Launch} {D : va_G} {C : Nat → ClassId} {q : Nat → Nat} {th ta fa sm : Int} {tape now snaps : Int → Int} {wo : Int64} {sc : Nat → Int} {sa : Nat → Int → Int} (hg : Wf now)  : CI (S := Unit) l yX7_worst wsX7_worst 6 135 D C [.ref (q 36)] (wM q C th ta fa sm tape now snaps wo sc sa) (fun _ => wM q C 0 ta fa sm tape now snaps wo sc sa) (fun r _ => r = iI (worstOf now)) := by
  refine CI_of (cc := cX7_worst) (maxL := 4) (by decide) rfl (Nat.le_of_ble_eq_true rfl) ?_
  intro p e s m below meth c A Q ls hx hb hml hown hts hK hNW hA hl hP hD hS hret
  have hl : lv_has ls 4 [(0, .ref (q 36))] := hl
  refine lv_aload_n hx hb dX7_worst_0 rfl (lv_at hl 0 rfl) ?_
  refine lv_iconst (v := iI (0)) hx hb dX7_worst_1 rfl ?_
  refine va_put (D := D) (ci := 7) (v := .int (iI (0))) (ty := .int) (C := RX7) (T := TX7) (N := 23) hx hb hts (by decide +kernel) tyX7 tyX7_ok nmX7 hown hK hP hD hS 0 rfl rfl 0 (by decide) (hts (.fieldLink RX7 1 "BreakSetterModel" "thrown" "I") (by decide +kernel)) (fun _ h9 => h9) rfl (by decide +kernel) rfl rfl (Nat.le_of_ble_eq_true rfl) dX7_worst_2 (fun H locs hP hD hS => ?_)
  have hP : va_P D vwCl (wM q C 0 ta fa sm tape now snaps wo sc sa) H := hP
  have hD : va_D A (wM q C 0 ta fa sm tape now snaps wo sc sa) := hD
  refine lv_iconst (v := iI (-1)) hx hb dX7_worst_5 rfl ?_
  refine lv_istore_n (lv' := [(1, .int (iI (-1))), (0, .ref (q 36))]) hx hb dX7_worst_6 rfl hl (by decide) rfl (fun ls hl => ?_)
  refine lv_iconst (v := iI (0)) hx hb dX7_worst_7 rfl ?_
  refine lv_istore_n (lv' := [(2, .int (iI (0))), (1, .int (iI (-1))), (0, .ref (q 36))]) hx hb dX7_worst_8 rfl hl (by decide) rfl (fun ls hl => ?_)
  refine lv_iconst (v := iI (0)) hx hb dX7_worst_9 rfl ?_
  refine lv_istore_n (lv' := [(3, .int (iI (0))), (2, .int (iI (0))), (1, .int (iI (-1))), (0, .ref (q 36))]) hx hb dX7_worst_10 rfl hl (by decide) rfl (fun ls hl => ?_)
  have L11 : ∀ (n : Nat) (t : Int) (bb : Int) (ll : Int) (ls : Array Slot) (H : Heap) (locs : List Loc), (0 ≤ t ∧ t ≤ 48) → (bb = (wst now t.toNat).1) → (ll = (wst now t.toNat).2) → ((48 - t).toNat < n) → (lv_has ls 4 [(3, .int (iI (t))), (2, .int (iI (ll))), (1, .int (iI (bb))), (0, .ref (q 36))]) → (va_P D vwCl (wM q C 0 ta fa sm tape now snaps wo sc sa) H) → (va_D A (wM q C 0 ta fa sm tape now snaps wo sc sa)) → (va_S A s.heap H locs) → W p l e (rmN 6 135) s m ([.ref (q 36)] : List Value).toArray below meth c H locs 0 0 Q (F0 m 11 ls []) := by
    intro n
    induction n with
    | zero => intro t bb ll ls H locs h1 h2 h3 hn; exact absurd hn (Nat.not_lt_zero _)
    | succ n ih11 =>
      intro t bb ll ls H locs h1 h2 h3 hn hl hP hD hS
      have hn11 := hn
      have rr := wst_rng hg t.toNat (by omega)
      rw [← h2, ← h3] at rr
      refine lv_iload_n hx hb dX7_worst_11 rfl (lv_at hl 0 rfl) ?_
      refine lv_bipush (v := iI (48)) hx hb dX7_worst_12 (by decide) ?_
      refine j_icmp_ge (tgt := 43) hx hb dX7_worst_14 rfl ⟨by omega, by omega⟩ ⟨by decide, by decide⟩ (fun c14 => ?_) (fun c14 => ?_)
      · skip
        refine lv_iload_n hx hb dX7_worst_43 rfl (lv_at hl 2 rfl) ?_
        exact hret H locs ls 44 _ () dX7_worst_44 (by rw [h2, show t = 48 by omega]; rfl) hP hD hS
      · skip
        have ss := shI_rng hg (t := t) (by omega) (by omega)
        refine lv_aload_n hx hb dX7_worst_17 rfl (lv_at hl 3 rfl) ?_
        refine lv_iload_n hx hb dX7_worst_18 rfl (lv_at hl 0 rfl) ?_
        refine CR_callV (As := [.int (iI (t))]) (rest := []) ⟨hx, hb, hml, hown, hts⟩ (c_X7_shortIn MN_wM hg (by omega)) (cwV 1 hts gX7_worst_X7_shortIn rfl rfl rfl (by decide +kernel) ⟨Nat.le_of_ble_eq_true rfl, Nat.le_of_ble_eq_true rfl⟩) (q0 := 0) rfl rfl rfl hK hNW hP rfl hl.1 rfl (Nat.le_of_ble_eq_true rfl) dX7_worst_19 ⟨Nat.zero_le _, Nat.zero_le _⟩ ?_
        refine lv_iload_n hx hb dX7_worst_22 rfl (lv_at hl 1 rfl) ?_
        refine j_icmp_gt (tgt := 29) hx hb dX7_worst_23 rfl ⟨by omega, by omega⟩ ⟨by omega, by omega⟩ (fun c23 => ?_) (fun c23 => ?_)
        · skip
          refine lv_aload_n hx hb dX7_worst_29 rfl (lv_at hl 3 rfl) ?_
          refine lv_iload_n hx hb dX7_worst_30 rfl (lv_at hl 0 rfl) ?_
          refine CR_callV (As := [.int (iI (t))]) (rest := []) ⟨hx, hb, hml, hown, hts⟩ (c_X7_shortIn MN_wM hg (by omega)) (cwV 1 hts gX7_worst_X7_shortIn rfl rfl rfl (by decide +kernel) ⟨Nat.le_of_ble_eq_true rfl, Nat.le_of_ble_eq_true rfl⟩) (q0 := 0) rfl rfl rfl hK hNW hP rfl hl.1 rfl (Nat.le_of_ble_eq_true rfl) dX7_worst_31 ⟨Nat.zero_le _, Nat.zero_le _⟩ ?_
          refine lv_istore_n (lv' := [(2, .int (iI (shI now t))), (3, .int (iI (t))), (1, .int (iI (bb))), (0, .ref (q 36))]) hx hb dX7_worst_34 rfl hl (by decide) rfl (fun ls hl => ?_)
          refine lv_iload_n hx hb dX7_worst_35 rfl (lv_at hl 1 rfl) ?_
          refine lv_istore_n (lv' := [(1, .int (iI (t))), (2, .int (iI (shI now t))), (3, .int (iI (t))), (0, .ref (q 36))]) hx hb dX7_worst_36 rfl hl (by decide) rfl (fun ls hl => ?_)
          refine j_iinc (k := 2) (lv' := [(3, .int (iI (t + 1))), (1, .int (iI (t))), (2, .int (iI (shI now t))), (0, .ref (q 36))]) hx hb dX7_worst_37 hl rfl (by decide) rfl (fun ls hl => ?_)
          refine lv_goto (tgt := 11) hx hb dX7_worst_40 rfl ?_
          exact ih11 (t + 1) t (shI now t) ls H locs (by omega) (by rw [wst_s h1.1]; first | (rw [if_pos (by omega)]; exact h2; done) | (rw [if_neg (by omega)]; done)) (by rw [wst_s h1.1]; first | (rw [if_pos (by omega)]; exact h3; done) | (rw [if_neg (by omega)]; done)) (by omega) (lv_sub hl [0, 2, 1, 3] rfl) hP hD hS
        · skip
          refine lv_goto (tgt := 37) hx hb dX7_worst_26 rfl ?_
          refine j_iinc (k := 0) (lv' := [(3, .int (iI (t + 1))), (2, .int (iI (ll))), (1, .int (iI (bb))), (0, .ref (q 36))]) hx hb dX7_worst_37 hl rfl (by decide) rfl (fun ls hl => ?_)
          refine lv_goto (tgt := 11) hx hb dX7_worst_40 rfl ?_
          exact ih11 (t + 1) bb ll ls H locs (by omega) (by rw [wst_s h1.1]; first | (rw [if_pos (by omega)]; exact h2; done) | (rw [if_neg (by omega)]; done)) (by rw [wst_s h1.1]; first | (rw [if_pos (by omega)]; exact h3; done) | (rw [if_neg (by omega)]; done)) (by omega) (lv_sub hl [0, 1, 2, 3] rfl) hP hD hS
  exact L11 _ 0 (-1) 0 ls H locs (by omega) rfl rfl (Nat.lt_succ_self _) (lv_sub hl [0, 1, 2, 3] rfl) hP hD hS

set_option maxHeartbeats 4000000 in
set_option maxRecDepth 100000 in
theorem c_X7_shift {l : Launch} {D : va_G} {C : Nat → ClassId} {q : Nat → Nat} {th ta fa sm : Int} {tape now snaps : Int → Int} {wo : Int64} {sc : Nat → Int} {sa : Nat → Int → Int} (hg : Wf now) {ss ww : Int} (hs : R32 ss) (hw0 : R32 ww) : CI (S := Int) l yX7_shift wsX7_shift 1 22 D C [.ref (q 36), .int (iI (ss)), .int (iI (ww))] (wM q C th ta fa sm tape now snaps wo sc sa) (fun u => wM q C u ta fa sm tape now snaps wo sc sa) (fun r u => (u = 0 ∧ ∃ z, shiftF now ss ww = some z ∧ r = iI z ∧ R32 z) ∨ (u = 1 ∧ shiftF now ss ww = none)) := by
  refine CI_of (cc := cX7_shift) (maxL := 3) (by decide) rfl (Nat.le_of_ble_eq_true rfl) ?_
  intro p e s m below meth c A Q ls hx hb hml hown hts hK hNW hA hl hP hD hS hret
  have hl : lv_has ls 3 [(0, .ref (q 36)), (1, .int (iI (ss))), (2, .int (iI (ww)))] := hl
  have n := Wf_n hg
  refine lv_aload_n hx hb dX7_shift_0 rfl (lv_at hl 0 rfl) ?_
  refine lv_iconst (v := iI (0)) hx hb dX7_shift_1 rfl ?_
  refine va_put (D := D) (ci := 7) (v := .int (iI (0))) (ty := .int) (C := RX7) (T := TX7) (N := 23) hx hb hts (by decide +kernel) tyX7 tyX7_ok nmX7 hown hK hP hD hS 0 rfl rfl 0 (by decide) (hts (.fieldLink RX7 1 "BreakSetterModel" "thrown" "I") (by decide +kernel)) (fun _ h9 => h9) rfl (by decide +kernel) rfl rfl (Nat.le_of_ble_eq_true rfl) dX7_shift_2 (fun H locs hP hD hS => ?_)
  have hP : va_P D vwCl (wM q C 0 ta fa sm tape now snaps wo sc sa) H := hP
  have hD : va_D A (wM q C 0 ta fa sm tape now snaps wo sc sa) := hD
  refine lv_iload_n hx hb dX7_shift_5 rfl (lv_at hl 1 rfl) ?_
  refine lv_iconst (v := iI (0)) hx hb dX7_shift_6 rfl ?_
  refine lv_aload_n hx hb dX7_shift_7 rfl (lv_at hl 0 rfl) ?_
  refine va_get (D := D) (ci := 7) (v := .ref (q 38)) (C := RX7) (T := TX7) (N := 23) hx hb hts (by decide +kernel) hown hK hP 0 rfl rfl 11 (by decide) (hts (.fieldLink RX7 74 "BreakSetterModel" "now" "[I") (by decide +kernel)) (fun _ h9 => h9) rfl dX7_shift_8 ?_
  refine lv_iconst (v := iI (2)) hx hb dX7_shift_11 rfl ?_
  refine j_iald hx hb hK hP 2 1 rfl rfl ⟨by omega, by omega⟩ (Nat.le_of_ble_eq_true rfl) dX7_shift_12 ?_
  refine lv_iconst (v := iI (1)) hx hb dX7_shift_13 rfl ?_
  refine j_isub hx hb dX7_shift_14 ?_
  refine CR_callS (As := [.int (iI (ss)), .int (iI (0)), .int (iI ((now 2) - 1))]) (rest := []) ⟨hx, hb, hml, hown, hts⟩ (c_X7_isIn hs ⟨by decide, by decide⟩ ⟨by omega, by omega⟩) (cwS 3 hts gX7_shift_X7_isIn rfl rfl rfl (by decide +kernel) ⟨Nat.le_of_ble_eq_true rfl, Nat.le_of_ble_eq_true rfl⟩) hK hNW hP rfl hl.1 rfl (Nat.le_of_ble_eq_true rfl) dX7_shift_15 ⟨Nat.zero_le _, Nat.zero_le _⟩ ?_
  refine j_ifeqB (tgt := 30) hx hb dX7_shift_18 rfl (fun c18 => ?_) (fun c18 => ?_)
  · skip
    refine lv_aload_n hx hb dX7_shift_30 rfl (lv_at hl 0 rfl) ?_
    refine CI_callV0 (As := []) (rest := []) ⟨hx, hb, hml, hown, hts⟩ c_X7_refuse (cwV 0 hts gX7_shift_X7_refuse rfl rfl rfl (by decide +kernel) ⟨Nat.le_of_ble_eq_true rfl, Nat.le_of_ble_eq_true rfl⟩) (q0 := 0) rfl rfl rfl hK hNW hP hD hS hA rfl hl.1 rfl (Nat.le_of_ble_eq_true rfl) dX7_shift_31 ⟨Nat.zero_le _, Nat.zero_le _⟩ (fun r u H locs hw9 hP hD hS => ?_)
    have hw9 : r = iI (0) := hw9
    subst hw9
    have hP : va_P D vwCl (wM q C 1 ta fa sm tape now snaps wo sc sa) H := hP
    have hD : va_D A (wM q C 1 ta fa sm tape now snaps wo sc sa) := hD
    exact hret H locs ls 34 _ 1 dX7_shift_34 (Or.inr ⟨rfl, by unfold shiftF; rw [if_neg (by omega)]⟩) hP hD hS
  · skip
    refine lv_iload_n hx hb dX7_shift_21 rfl (lv_at hl 2 rfl) ?_
    refine lv_iconst (v := iI (0)) hx hb dX7_shift_22 rfl ?_
    refine lv_iconst (v := iI (4)) hx hb dX7_shift_23 rfl ?_
    refine CR_callS (As := [.int (iI (ww)), .int (iI (0)), .int (iI (4))]) (rest := []) ⟨hx, hb, hml, hown, hts⟩ (c_X7_isIn hw0 ⟨by decide, by decide⟩ ⟨by decide, by decide⟩) (cwS 3 hts gX7_shift_X7_isIn rfl rfl rfl (by decide +kernel) ⟨Nat.le_of_ble_eq_true rfl, Nat.le_of_ble_eq_true rfl⟩) hK hNW hP rfl hl.1 rfl (Nat.le_of_ble_eq_true rfl) dX7_shift_24 ⟨Nat.zero_le _, Nat.zero_le _⟩ ?_
    refine j_ifneB (tgt := 35) hx hb dX7_shift_27 rfl (fun c27 => ?_) (fun c27 => ?_)
    · skip
      have b := Wf_sh hg (s := ss) (by omega) (by omega)
      refine lv_iload_n hx hb dX7_shift_35 rfl (lv_at hl 2 rfl) ?_
      refine lv_iconst (v := iI (4)) hx hb dX7_shift_36 rfl ?_
      refine j_icmp_ne (tgt := 53) hx hb dX7_shift_37 rfl ⟨by omega, by omega⟩ ⟨by decide, by decide⟩ (fun c37 => ?_) (fun c37 => ?_)
      · skip
        refine lv_aload_n hx hb dX7_shift_53 rfl (lv_at hl 0 rfl) ?_
        refine lv_iload_n hx hb dX7_shift_54 rfl (lv_at hl 1 rfl) ?_
        refine lv_iload_n hx hb dX7_shift_55 rfl (lv_at hl 2 rfl) ?_
        refine CR_callV (As := [.int (iI (ss)), .int (iI (ww))]) (rest := []) ⟨hx, hb, hml, hown, hts⟩ (c_X7_duty MN_wM (by omega) (by omega)) (cwV 2 hts gX7_shift_X7_duty rfl rfl rfl (by decide +kernel) ⟨Nat.le_of_ble_eq_true rfl, Nat.le_of_ble_eq_true rfl⟩) (q0 := 0) rfl rfl rfl hK hNW hP rfl hl.1 rfl (Nat.le_of_ble_eq_true rfl) dX7_shift_56 ⟨Nat.zero_le _, Nat.zero_le _⟩ ?_
        exact hret H locs ls 59 _ 0 dX7_shift_59 (Or.inl ⟨rfl, _, by unfold shiftF; rw [if_pos ⟨⟨by omega, by omega⟩, by omega, by omega⟩], by first | (rw [if_neg (fun q => c37 q.1)]), by first | (rw [if_neg (fun q => c37 q.1)]; exact sh_R hg (by omega) (by omega) (by omega) (by omega); done)⟩) hP hD hS
      · skip
        refine lv_aload_n hx hb dX7_shift_40 rfl (lv_at hl 0 rfl) ?_
        refine lv_iload_n hx hb dX7_shift_41 rfl (lv_at hl 1 rfl) ?_
        refine lv_iconst (v := iI (3)) hx hb dX7_shift_42 rfl ?_
        refine CR_callV (As := [.int (iI (ss)), .int (iI (3))]) (rest := []) ⟨hx, hb, hml, hown, hts⟩ (c_X7_duty MN_wM (by omega) (by omega)) (cwV 2 hts gX7_shift_X7_duty rfl rfl rfl (by decide +kernel) ⟨Nat.le_of_ble_eq_true rfl, Nat.le_of_ble_eq_true rfl⟩) (q0 := 0) rfl rfl rfl hK hNW hP rfl hl.1 rfl (Nat.le_of_ble_eq_true rfl) dX7_shift_43 ⟨Nat.zero_le _, Nat.zero_le _⟩ ?_
        refine W_wen (y := iI (now (151 + 5 * ss))) (congrArg iI (congrArg now (by omega))) ?_
        refine j_if_ne (tgt := 53) hx hb dX7_shift_46 rfl ⟨by omega, by omega⟩ (fun c46 => ?_) (fun c46 => ?_)
        · skip
          refine lv_aload_n hx hb dX7_shift_53 rfl (lv_at hl 0 rfl) ?_
          refine lv_iload_n hx hb dX7_shift_54 rfl (lv_at hl 1 rfl) ?_
          refine lv_iload_n hx hb dX7_shift_55 rfl (lv_at hl 2 rfl) ?_
          refine CR_callV (As := [.int (iI (ss)), .int (iI (ww))]) (rest := []) ⟨hx, hb, hml, hown, hts⟩ (c_X7_duty MN_wM (by omega) (by omega)) (cwV 2 hts gX7_shift_X7_duty rfl rfl rfl (by decide +kernel) ⟨Nat.le_of_ble_eq_true rfl, Nat.le_of_ble_eq_true rfl⟩) (q0 := 0) rfl rfl rfl hK hNW hP rfl hl.1 rfl (Nat.le_of_ble_eq_true rfl) dX7_shift_56 ⟨Nat.zero_le _, Nat.zero_le _⟩ ?_
          exact hret H locs ls 59 _ 0 dX7_shift_59 (Or.inl ⟨rfl, _, by unfold shiftF; rw [if_pos ⟨⟨by omega, by omega⟩, by omega, by omega⟩], by first | (rw [if_pos ⟨c37, c46⟩]; done) | (rw [if_neg (fun q => c46 q.2)]; done) | (rw [if_neg (fun q => c37 q.1)]), by first | (rw [if_pos ⟨c37, c46⟩]; exact ⟨by decide, by decide⟩; done) | (rw [if_neg (fun q => c46 q.2)]; exact sh_R hg (by omega) (by omega) (by omega) (by omega); done) | (rw [if_neg (fun q => c37 q.1)]; exact sh_R hg (by omega) (by omega) (by omega) (by omega); done)⟩) hP hD hS
        · skip
          refine lv_iconst (v := iI (-1)) hx hb dX7_shift_49 rfl ?_
          refine lv_goto (tgt := 59) hx hb dX7_shift_50 rfl ?_
          exact hret H locs ls 59 _ 0 dX7_shift_59 (Or.inl ⟨rfl, _, by unfold shiftF; rw [if_pos ⟨⟨by omega, by omega⟩, by omega, by omega⟩], by first | (rw [if_pos ⟨c37, c46⟩]; done) | (rw [if_neg (fun q => c46 q.2)]; done) | (rw [if_neg (fun q => c37 q.1)]), by first | (rw [if_pos ⟨c37, c46⟩]; exact ⟨by decide, by decide⟩; done) | (rw [if_neg (fun q => c46 q.2)]; exact sh_R hg (by omega) (by omega) (by omega) (by omega); done) | (rw [if_neg (fun q => c37 q.1)]; exact sh_R hg (by omega) (by omega) (by omega) (by omega); done)⟩) hP hD hS
    · skip
      refine lv_aload_n hx hb dX7_shift_30 rfl (lv_at hl 0 rfl) ?_
      refine CI_callV0 (As := []) (rest := []) ⟨hx, hb, hml, hown, hts⟩ c_X7_refuse (cwV 0 hts gX7_shift_X7_refuse rfl rfl rfl (by decide +kernel) ⟨Nat.le_of_ble_eq_true rfl, Nat.le_of_ble_eq_true rfl⟩) (q0 := 0) rfl rfl rfl hK hNW hP hD hS hA rfl hl.1 rfl (Nat.le_of_ble_eq_true rfl) dX7_shift_31 ⟨Nat.zero_le _, Nat.zero_le _⟩ (fun r u H locs hw9 hP hD hS => ?_)
      have hw9 : r = iI (0) := hw9
      subst hw9
      have hP : va_P D vwCl (wM q C 1 ta fa sm tape now snaps wo sc sa) H := hP
      have hD : va_D A (wM q C 1 ta fa sm tape now snaps wo sc sa) := hD
      exact hret H locs ls 34 _ 1 dX7_shift_34 (Or.inr ⟨rfl, by unfold shiftF; rw [if_neg (by omega)]⟩) hP hD hS

set_option maxHeartbeats 4000000 in
set_option maxRecDepth 100000 in
theorem c_X7_pause {l : Launch} {D : va_G} {C : Nat → ClassId} {q : Nat → Nat} {th ta fa sm : Int} {tape now snaps : Int → Int} {wo : Int64} {sc : Nat → Int} {sa : Nat → Int → Int} (hg : Wf now) {kk ww : Int} (hk : R32 kk) (hw0 : R32 ww) : CI (S := Int) l yX7_pause wsX7_pause 2 43 D C [.ref (q 36), .int (iI (kk)), .int (iI (ww))] (wM q C th ta fa sm tape now snaps wo sc sa) (fun u => wM q C u ta fa sm tape now snaps wo sc sa) (fun r u => (u = 0 ∧ ∃ z, pauseF now kk ww = some z ∧ r = iI z ∧ R32 z) ∨ (u = 1 ∧ pauseF now kk ww = none)) := by
  refine CI_of (cc := cX7_pause) (maxL := 3) (by decide) rfl (Nat.le_of_ble_eq_true rfl) ?_
  intro p e s m below meth c A Q ls hx hb hml hown hts hK hNW hA hl hP hD hS hret
  have hl : lv_has ls 3 [(0, .ref (q 36)), (1, .int (iI (kk))), (2, .int (iI (ww)))] := hl
  have n := Wf_n hg
  refine lv_aload_n hx hb dX7_pause_0 rfl (lv_at hl 0 rfl) ?_
  refine lv_iconst (v := iI (0)) hx hb dX7_pause_1 rfl ?_
  refine va_put (D := D) (ci := 7) (v := .int (iI (0))) (ty := .int) (C := RX7) (T := TX7) (N := 23) hx hb hts (by decide +kernel) tyX7 tyX7_ok nmX7 hown hK hP hD hS 0 rfl rfl 0 (by decide) (hts (.fieldLink RX7 1 "BreakSetterModel" "thrown" "I") (by decide +kernel)) (fun _ h9 => h9) rfl (by decide +kernel) rfl rfl (Nat.le_of_ble_eq_true rfl) dX7_pause_2 (fun H locs hP hD hS => ?_)
  have hP : va_P D vwCl (wM q C 0 ta fa sm tape now snaps wo sc sa) H := hP
  have hD : va_D A (wM q C 0 ta fa sm tape now snaps wo sc sa) := hD
  refine lv_aload_n hx hb dX7_pause_5 rfl (lv_at hl 0 rfl) ?_
  refine lv_iload_n hx hb dX7_pause_6 rfl (lv_at hl 1 rfl) ?_
  refine CR_callV (As := [.int (iI (kk))]) (rest := []) ⟨hx, hb, hml, hown, hts⟩ (c_X7_isPause MN_wM hg hk) (cwV 1 hts gX7_pause_X7_isPause rfl rfl rfl (by decide +kernel) ⟨Nat.le_of_ble_eq_true rfl, Nat.le_of_ble_eq_true rfl⟩) (q0 := 0) rfl rfl rfl hK hNW hP rfl hl.1 rfl (Nat.le_of_ble_eq_true rfl) dX7_pause_7 ⟨Nat.zero_le _, Nat.zero_le _⟩ ?_
  refine j_ifeqB (tgt := 22) hx hb dX7_pause_10 rfl (fun c10 => ?_) (fun c10 => ?_)
  · skip
    refine lv_aload_n hx hb dX7_pause_22 rfl (lv_at hl 0 rfl) ?_
    refine CI_callV0 (As := []) (rest := []) ⟨hx, hb, hml, hown, hts⟩ c_X7_refuse (cwV 0 hts gX7_pause_X7_refuse rfl rfl rfl (by decide +kernel) ⟨Nat.le_of_ble_eq_true rfl, Nat.le_of_ble_eq_true rfl⟩) (q0 := 0) rfl rfl rfl hK hNW hP hD hS hA rfl hl.1 rfl (Nat.le_of_ble_eq_true rfl) dX7_pause_23 ⟨Nat.zero_le _, Nat.zero_le _⟩ (fun r u H locs hw9 hP hD hS => ?_)
    have hw9 : r = iI (0) := hw9
    subst hw9
    have hP : va_P D vwCl (wM q C 1 ta fa sm tape now snaps wo sc sa) H := hP
    have hD : va_D A (wM q C 1 ta fa sm tape now snaps wo sc sa) := hD
    exact hret H locs ls 26 _ 1 dX7_pause_26 (Or.inr ⟨rfl, by unfold pauseF; rw [if_neg (by omega)]⟩) hP hD hS
  · skip
    refine lv_iload_n hx hb dX7_pause_13 rfl (lv_at hl 2 rfl) ?_
    refine lv_iconst (v := iI (0)) hx hb dX7_pause_14 rfl ?_
    refine lv_iconst (v := iI (4)) hx hb dX7_pause_15 rfl ?_
    refine CR_callS (As := [.int (iI (ww)), .int (iI (0)), .int (iI (4))]) (rest := []) ⟨hx, hb, hml, hown, hts⟩ (c_X7_isIn hw0 ⟨by decide, by decide⟩ ⟨by decide, by decide⟩) (cwS 3 hts gX7_pause_X7_isIn rfl rfl rfl (by decide +kernel) ⟨Nat.le_of_ble_eq_true rfl, Nat.le_of_ble_eq_true rfl⟩) hK hNW hP rfl hl.1 rfl (Nat.le_of_ble_eq_true rfl) dX7_pause_16 ⟨Nat.zero_le _, Nat.zero_le _⟩ ?_
    refine j_ifneB (tgt := 27) hx hb dX7_pause_19 rfl (fun c19 => ?_) (fun c19 => ?_)
    · skip
      refine lv_iload_n hx hb dX7_pause_27 rfl (lv_at hl 2 rfl) ?_
      refine lv_iconst (v := iI (4)) hx hb dX7_pause_28 rfl ?_
      refine j_icmp_ne (tgt := 40) hx hb dX7_pause_29 rfl ⟨by omega, by omega⟩ ⟨by decide, by decide⟩ (fun c29 => ?_) (fun c29 => ?_)
      · skip
        refine lv_aload_n hx hb dX7_pause_40 rfl (lv_at hl 0 rfl) ?_
        refine lv_iload_n hx hb dX7_pause_41 rfl (lv_at hl 1 rfl) ?_
        refine lv_iload_n hx hb dX7_pause_42 rfl (lv_at hl 2 rfl) ?_
        refine CR_callV (As := [.int (iI (kk)), .int (iI (ww))]) (rest := []) ⟨hx, hb, hml, hown, hts⟩ (c_X7_its MN_wM (by omega) (by omega)) (cwV 2 hts gX7_pause_X7_its rfl rfl rfl (by decide +kernel) ⟨Nat.le_of_ble_eq_true rfl, Nat.le_of_ble_eq_true rfl⟩) (q0 := 0) rfl rfl rfl hK hNW hP rfl hl.1 rfl (Nat.le_of_ble_eq_true rfl) dX7_pause_43 ⟨Nat.zero_le _, Nat.zero_le _⟩ ?_
        exact hret H locs ls 46 _ 0 dX7_pause_46 (Or.inl ⟨rfl, _, by unfold pauseF; rw [if_pos ⟨⟨by omega, by omega⟩, by omega, by omega⟩], by first | (rw [if_pos c29]; done) | (rw [if_neg c29]), by first | (rw [if_pos c29]; exact pa_R4 hg (by omega) (by omega); done) | (rw [if_neg c29]; exact pa_R hg (by omega) (by omega) (by omega) (by omega); done)⟩) hP hD hS
      · skip
        refine lv_aload_n hx hb dX7_pause_32 rfl (lv_at hl 0 rfl) ?_
        refine lv_iload_n hx hb dX7_pause_33 rfl (lv_at hl 1 rfl) ?_
        refine CR_callV (As := [.int (iI (kk))]) (rest := []) ⟨hx, hb, hml, hown, hts⟩ (c_X7_placeOf MN_wM (by omega) (by omega)) (cwV 1 hts gX7_pause_X7_placeOf rfl rfl rfl (by decide +kernel) ⟨Nat.le_of_ble_eq_true rfl, Nat.le_of_ble_eq_true rfl⟩) (q0 := 0) rfl rfl rfl hK hNW hP rfl hl.1 rfl (Nat.le_of_ble_eq_true rfl) dX7_pause_34 ⟨Nat.zero_le _, Nat.zero_le _⟩ ?_
        refine lv_goto (tgt := 46) hx hb dX7_pause_37 rfl ?_
        exact hret H locs ls 46 _ 0 dX7_pause_46 (Or.inl ⟨rfl, _, by unfold pauseF; rw [if_pos ⟨⟨by omega, by omega⟩, by omega, by omega⟩], by first | (rw [if_pos c29]; done) | (rw [if_neg c29]), by first | (rw [if_pos c29]; exact pa_R4 hg (by omega) (by omega); done) | (rw [if_neg c29]; exact pa_R hg (by omega) (by omega) (by omega) (by omega); done)⟩) hP hD hS
    · skip
      refine lv_aload_n hx hb dX7_pause_22 rfl (lv_at hl 0 rfl) ?_
      refine CI_callV0 (As := []) (rest := []) ⟨hx, hb, hml, hown, hts⟩ c_X7_refuse (cwV 0 hts gX7_pause_X7_refuse rfl rfl rfl (by decide +kernel) ⟨Nat.le_of_ble_eq_true rfl, Nat.le_of_ble_eq_true rfl⟩) (q0 := 0) rfl rfl rfl hK hNW hP hD hS hA rfl hl.1 rfl (Nat.le_of_ble_eq_true rfl) dX7_pause_23 ⟨Nat.zero_le _, Nat.zero_le _⟩ (fun r u H locs hw9 hP hD hS => ?_)
      have hw9 : r = iI (0) := hw9
      subst hw9
      have hP : va_P D vwCl (wM q C 1 ta fa sm tape now snaps wo sc sa) H := hP
      have hD : va_D A (wM q C 1 ta fa sm tape now snaps wo sc sa) := hD
      exact hret H locs ls 26 _ 1 dX7_pause_26 (Or.inr ⟨rfl, by unfold pauseF; rw [if_neg (by omega)]⟩) hP hD hS

set_option maxHeartbeats 4000000 in
set_option maxRecDepth 100000 in
theorem c_X7_snap {l : Launch} {D : va_G} {C : Nat → ClassId} {q : Nat → Nat} {th ta fa sm : Int} {tape now snaps : Int → Int} {wo : Int64} {sc : Nat → Int} {sa : Nat → Int → Int} (hsm : 0 ≤ sm ∧ sm ≤ 10) : CV (S := Unit) l yX7_snap wsX7_snap 0 0 D C [.ref (q 36)] (wM q C th ta fa sm tape now snaps wo sc sa) (fun _ => wM q C th ta fa (snapN sm) tape now (snapF sm snaps now) wo sc sa) (fun _ => True) := by
  refine CV_of (cc := cX7_snap) (maxL := 2) (by decide) rfl (Nat.le_of_ble_eq_true rfl) ?_
  intro p e s m below meth c A Q ls hx hb hml hown hts hK hNW hA hl hP hD hS hret
  have hl : lv_has ls 2 [(0, .ref (q 36))] := hl
  refine lv_aload_n hx hb dX7_snap_0 rfl (lv_at hl 0 rfl) ?_
  refine va_get (D := D) (ci := 7) (v := .int (iI (sm))) (C := RX7) (T := TX7) (N := 23) hx hb hts (by decide +kernel) hown hK hP 0 rfl rfl 14 (by decide) (hts (.fieldLink RX7 152 "BreakSetterModel" "snapMany" "I") (by decide +kernel)) (fun _ h9 => h9) rfl dX7_snap_1 ?_
  refine lv_bipush (v := iI (10)) hx hb dX7_snap_4 (by decide) ?_
  refine j_icmp_ne (tgt := 50) hx hb dX7_snap_6 rfl ⟨by omega, by omega⟩ ⟨by decide, by decide⟩ (fun c6 => ?_) (fun c6 => ?_)
  · skip
    refine lv_iconst (v := iI (0)) hx hb dX7_snap_50 rfl ?_
    refine lv_istore_n (lv' := [(1, .int (iI (0))), (0, .ref (q 36))]) hx hb dX7_snap_51 rfl hl (by decide) rfl (fun ls hl => ?_)
    have L52 : ∀ (n : Nat) (j : Int) (ls : Array Slot) (H : Heap) (locs : List Loc), (0 ≤ j ∧ j ≤ 308) → ((308 - j).toNat < n) → (lv_has ls 2 [(1, .int (iI (j))), (0, .ref (q 36))]) → (va_P D vwCl (wM q C th ta fa sm tape now (cpf snaps now (308 * sm) j) wo sc sa) H) → (va_D A (wM q C th ta fa sm tape now (cpf snaps now (308 * sm) j) wo sc sa)) → (va_S A s.heap H locs) → W p l e (rmN 0 0) s m ([.ref (q 36)] : List Value).toArray below meth c H locs 0 0 Q (F0 m 52 ls []) := by
      intro n
      induction n with
      | zero => intro j ls H locs g1 hn; exact absurd hn (Nat.not_lt_zero _)
      | succ n ih52 =>
        intro j ls H locs g1 hn hl hP hD hS
        have hn52 := hn
        refine lv_iload_n hx hb dX7_snap_52 rfl (lv_at hl 0 rfl) ?_
        refine lv_sipush (v := iI (308)) hx hb dX7_snap_53 (by decide) ?_
        refine j_icmp_ge (tgt := 86) hx hb dX7_snap_56 rfl ⟨by omega, by omega⟩ ⟨by decide, by decide⟩ (fun c56 => ?_) (fun c56 => ?_)
        · skip
          obtain rfl : j = 308 := by omega
          have hl := lv_sub hl [1] rfl
          refine lv_aload_n hx hb dX7_snap_86 rfl (lv_at hl 0 rfl) ?_
          refine lv_dup hx hb dX7_snap_87 rfl ?_
          refine va_get (D := D) (ci := 7) (v := .int (iI (sm))) (C := RX7) (T := TX7) (N := 23) hx hb hts (by decide +kernel) hown hK hP 0 rfl rfl 14 (by decide) (hts (.fieldLink RX7 152 "BreakSetterModel" "snapMany" "I") (by decide +kernel)) (fun _ h9 => h9) rfl dX7_snap_88 ?_
          refine lv_iconst (v := iI (1)) hx hb dX7_snap_91 rfl ?_
          refine j_iadd hx hb dX7_snap_92 ?_
          refine va_put (D := D) (ci := 7) (v := .int (iI (sm + 1))) (ty := .int) (C := RX7) (T := TX7) (N := 23) hx hb hts (by decide +kernel) tyX7 tyX7_ok nmX7 hown hK hP hD hS 0 rfl rfl 14 (by decide) (hts (.fieldLink RX7 152 "BreakSetterModel" "snapMany" "I") (by decide +kernel)) (fun _ h9 => h9) rfl (by decide +kernel) rfl rfl (Nat.le_of_ble_eq_true rfl) dX7_snap_93 (fun H locs hP hD hS => ?_)
          have hP : va_P D vwCl (wM q C th ta fa (sm + 1) tape now (cpf snaps now (308 * sm) 308) wo sc sa) H := hP
          have hD : va_D A (wM q C th ta fa (sm + 1) tape now (cpf snaps now (308 * sm) 308) wo sc sa) := hD
          rw [show cpf snaps now (308 * sm) 308 = snapF sm snaps now from (if_neg c6).symm, show sm + 1 = snapN sm from (if_neg c6).symm] at hP hD
          exact hret H locs ls 96 () dX7_snap_96 trivial hP hD hS
        · skip
          refine lv_aload_n hx hb dX7_snap_59 rfl (lv_at hl 1 rfl) ?_
          refine va_get (D := D) (ci := 7) (v := .ref (q 40)) (C := RX7) (T := TX7) (N := 23) hx hb hts (by decide +kernel) hown hK hP 0 rfl rfl 13 (by decide) (hts (.fieldLink RX7 80 "BreakSetterModel" "snaps" "[I") (by decide +kernel)) (fun _ h9 => h9) rfl dX7_snap_60 ?_
          refine lv_sipush (v := iI (308)) hx hb dX7_snap_63 (by decide) ?_
          refine lv_aload_n hx hb dX7_snap_66 rfl (lv_at hl 1 rfl) ?_
          refine va_get (D := D) (ci := 7) (v := .int (iI (sm))) (C := RX7) (T := TX7) (N := 23) hx hb hts (by decide +kernel) hown hK hP 0 rfl rfl 14 (by decide) (hts (.fieldLink RX7 152 "BreakSetterModel" "snapMany" "I") (by decide +kernel)) (fun _ h9 => h9) rfl dX7_snap_67 ?_
          refine j_imul hx hb dX7_snap_70 ?_
          refine lv_iload_n hx hb dX7_snap_71 rfl (lv_at hl 0 rfl) ?_
          refine j_iadd hx hb dX7_snap_72 ?_
          refine lv_aload_n hx hb dX7_snap_73 rfl (lv_at hl 1 rfl) ?_
          refine va_get (D := D) (ci := 7) (v := .ref (q 38)) (C := RX7) (T := TX7) (N := 23) hx hb hts (by decide +kernel) hown hK hP 0 rfl rfl 11 (by decide) (hts (.fieldLink RX7 74 "BreakSetterModel" "now" "[I") (by decide +kernel)) (fun _ h9 => h9) rfl dX7_snap_74 ?_
          refine lv_iload_n hx hb dX7_snap_77 rfl (lv_at hl 0 rfl) ?_
          refine j_iald hx hb hK hP 2 1 rfl rfl ⟨by omega, by omega⟩ (Nat.le_of_ble_eq_true rfl) dX7_snap_78 ?_
          refine j_iast hx hb hK hP hD hS 4 1 rfl rfl ⟨by omega, by omega⟩ (Nat.le_of_ble_eq_true rfl) dX7_snap_79 (fun H locs hP hD hS => ?_)
          have hP : va_P D vwCl (wM q C th ta fa sm tape now (up (cpf snaps now (308 * sm) j) ((308 * sm) + j) (now j)) wo sc sa) H := hP
          have hD : va_D A (wM q C th ta fa sm tape now (up (cpf snaps now (308 * sm) j) ((308 * sm) + j) (now j)) wo sc sa) := hD
          refine j_iinc (k := 0) (lv' := [(1, .int (iI (j + 1))), (0, .ref (q 36))]) hx hb dX7_snap_80 hl rfl (by decide) rfl (fun ls hl => ?_)
          refine lv_goto (tgt := 52) hx hb dX7_snap_83 rfl ?_
          rw [cpf_s g1.1] at hP hD
          exact ih52 (j + 1) ls H locs (by omega) (by omega) (lv_sub hl [0, 1] rfl) hP hD hS
    rw [← cpf_0 snaps now (308 * sm)] at hP hD
    exact L52 _ 0 ls s.heap [] (by omega) (Nat.lt_succ_self _) (lv_sub hl [0, 1] rfl) hP hD hS
  · skip
    subst c6
    refine lv_iconst (v := iI (0)) hx hb dX7_snap_9 rfl ?_
    refine lv_istore_n (lv' := [(1, .int (iI (0))), (0, .ref (q 36))]) hx hb dX7_snap_10 rfl hl (by decide) rfl (fun ls hl => ?_)
    have L11 : ∀ (n : Nat) (i : Int) (ls : Array Slot) (H : Heap) (locs : List Loc), (0 ≤ i ∧ i ≤ 2772) → ((2772 - i).toNat < n) → (lv_has ls 2 [(1, .int (iI (i))), (0, .ref (q 36))]) → (va_P D vwCl (wM q C th ta fa 10 tape now (shf snaps i) wo sc sa) H) → (va_D A (wM q C th ta fa 10 tape now (shf snaps i) wo sc sa)) → (va_S A s.heap H locs) → W p l e (rmN 0 0) s m ([.ref (q 36)] : List Value).toArray below meth c H locs 0 0 Q (F0 m 11 ls []) := by
      intro n
      induction n with
      | zero => intro i ls H locs h1 hn; exact absurd hn (Nat.not_lt_zero _)
      | succ n ih11 =>
        intro i ls H locs h1 hn hl hP hD hS
        have hn11 := hn
        refine lv_iload_n hx hb dX7_snap_11 rfl (lv_at hl 0 rfl) ?_
        refine lv_sipush (v := iI (2772)) hx hb dX7_snap_12 (by decide) ?_
        refine j_icmp_ge (tgt := 40) hx hb dX7_snap_15 rfl ⟨by omega, by omega⟩ ⟨by decide, by decide⟩ (fun c15 => ?_) (fun c15 => ?_)
        · skip
          obtain rfl : i = 2772 := by omega
          have hl := lv_sub hl [1] rfl
          refine lv_aload_n hx hb dX7_snap_40 rfl (lv_at hl 0 rfl) ?_
          refine lv_dup hx hb dX7_snap_41 rfl ?_
          refine va_get (D := D) (ci := 7) (v := .int (iI (10))) (C := RX7) (T := TX7) (N := 23) hx hb hts (by decide +kernel) hown hK hP 0 rfl rfl 14 (by decide) (hts (.fieldLink RX7 152 "BreakSetterModel" "snapMany" "I") (by decide +kernel)) (fun _ h9 => h9) rfl dX7_snap_42 ?_
          refine lv_iconst (v := iI (1)) hx hb dX7_snap_45 rfl ?_
          refine j_isub hx hb dX7_snap_46 ?_
          refine va_put (D := D) (ci := 7) (v := .int (iI (9))) (ty := .int) (C := RX7) (T := TX7) (N := 23) hx hb hts (by decide +kernel) tyX7 tyX7_ok nmX7 hown hK hP hD hS 0 rfl rfl 14 (by decide) (hts (.fieldLink RX7 152 "BreakSetterModel" "snapMany" "I") (by decide +kernel)) (fun _ h9 => h9) rfl (by decide +kernel) rfl rfl (Nat.le_of_ble_eq_true rfl) dX7_snap_47 (fun H locs hP hD hS => ?_)
          have hP : va_P D vwCl (wM q C th ta fa 9 tape now (shf snaps 2772) wo sc sa) H := hP
          have hD : va_D A (wM q C th ta fa 9 tape now (shf snaps 2772) wo sc sa) := hD
          refine lv_iconst (v := iI (0)) hx hb dX7_snap_50 rfl ?_
          refine lv_istore_n (lv' := [(1, .int (iI (0))), (0, .ref (q 36))]) hx hb dX7_snap_51 rfl hl (by decide) rfl (fun ls hl => ?_)
          have L52 : ∀ (n : Nat) (j : Int) (ls : Array Slot) (H : Heap) (locs : List Loc), (0 ≤ j ∧ j ≤ 308) → ((308 - j).toNat < n) → (lv_has ls 2 [(1, .int (iI (j))), (0, .ref (q 36))]) → (va_P D vwCl (wM q C th ta fa 9 tape now (cpf (shf snaps 2772) now (2772) j) wo sc sa) H) → (va_D A (wM q C th ta fa 9 tape now (cpf (shf snaps 2772) now (2772) j) wo sc sa)) → (va_S A s.heap H locs) → W p l e (rmN 0 0) s m ([.ref (q 36)] : List Value).toArray below meth c H locs 0 0 Q (F0 m 52 ls []) := by
            intro n
            induction n with
            | zero => intro j ls H locs g1 hn; exact absurd hn (Nat.not_lt_zero _)
            | succ n ih52 =>
              intro j ls H locs g1 hn hl hP hD hS
              have hn52 := hn
              refine lv_iload_n hx hb dX7_snap_52 rfl (lv_at hl 0 rfl) ?_
              refine lv_sipush (v := iI (308)) hx hb dX7_snap_53 (by decide) ?_
              refine j_icmp_ge (tgt := 86) hx hb dX7_snap_56 rfl ⟨by omega, by omega⟩ ⟨by decide, by decide⟩ (fun c56 => ?_) (fun c56 => ?_)
              · skip
                obtain rfl : j = 308 := by omega
                have hl := lv_sub hl [1] rfl
                refine lv_aload_n hx hb dX7_snap_86 rfl (lv_at hl 0 rfl) ?_
                refine lv_dup hx hb dX7_snap_87 rfl ?_
                refine va_get (D := D) (ci := 7) (v := .int (iI (9))) (C := RX7) (T := TX7) (N := 23) hx hb hts (by decide +kernel) hown hK hP 0 rfl rfl 14 (by decide) (hts (.fieldLink RX7 152 "BreakSetterModel" "snapMany" "I") (by decide +kernel)) (fun _ h9 => h9) rfl dX7_snap_88 ?_
                refine lv_iconst (v := iI (1)) hx hb dX7_snap_91 rfl ?_
                refine j_iadd hx hb dX7_snap_92 ?_
                refine va_put (D := D) (ci := 7) (v := .int (iI (10))) (ty := .int) (C := RX7) (T := TX7) (N := 23) hx hb hts (by decide +kernel) tyX7 tyX7_ok nmX7 hown hK hP hD hS 0 rfl rfl 14 (by decide) (hts (.fieldLink RX7 152 "BreakSetterModel" "snapMany" "I") (by decide +kernel)) (fun _ h9 => h9) rfl (by decide +kernel) rfl rfl (Nat.le_of_ble_eq_true rfl) dX7_snap_93 (fun H locs hP hD hS => ?_)
                have hP : va_P D vwCl (wM q C th ta fa 10 tape now (cpf (shf snaps 2772) now 2772 308) wo sc sa) H := hP
                have hD : va_D A (wM q C th ta fa 10 tape now (cpf (shf snaps 2772) now 2772 308) wo sc sa) := hD
                rw [show cpf (shf snaps 2772) now 2772 308 = snapF 10 snaps now from (if_pos rfl).symm] at hP hD
                exact hret H locs ls 96 () dX7_snap_96 trivial hP hD hS
              · skip
                refine lv_aload_n hx hb dX7_snap_59 rfl (lv_at hl 1 rfl) ?_
                refine va_get (D := D) (ci := 7) (v := .ref (q 40)) (C := RX7) (T := TX7) (N := 23) hx hb hts (by decide +kernel) hown hK hP 0 rfl rfl 13 (by decide) (hts (.fieldLink RX7 80 "BreakSetterModel" "snaps" "[I") (by decide +kernel)) (fun _ h9 => h9) rfl dX7_snap_60 ?_
                refine lv_sipush (v := iI (308)) hx hb dX7_snap_63 (by decide) ?_
                refine lv_aload_n hx hb dX7_snap_66 rfl (lv_at hl 1 rfl) ?_
                refine va_get (D := D) (ci := 7) (v := .int (iI (9))) (C := RX7) (T := TX7) (N := 23) hx hb hts (by decide +kernel) hown hK hP 0 rfl rfl 14 (by decide) (hts (.fieldLink RX7 152 "BreakSetterModel" "snapMany" "I") (by decide +kernel)) (fun _ h9 => h9) rfl dX7_snap_67 ?_
                refine j_imul hx hb dX7_snap_70 ?_
                refine lv_iload_n hx hb dX7_snap_71 rfl (lv_at hl 0 rfl) ?_
                refine j_iadd hx hb dX7_snap_72 ?_
                refine lv_aload_n hx hb dX7_snap_73 rfl (lv_at hl 1 rfl) ?_
                refine va_get (D := D) (ci := 7) (v := .ref (q 38)) (C := RX7) (T := TX7) (N := 23) hx hb hts (by decide +kernel) hown hK hP 0 rfl rfl 11 (by decide) (hts (.fieldLink RX7 74 "BreakSetterModel" "now" "[I") (by decide +kernel)) (fun _ h9 => h9) rfl dX7_snap_74 ?_
                refine lv_iload_n hx hb dX7_snap_77 rfl (lv_at hl 0 rfl) ?_
                refine j_iald hx hb hK hP 2 1 rfl rfl ⟨by omega, by omega⟩ (Nat.le_of_ble_eq_true rfl) dX7_snap_78 ?_
                refine j_iast hx hb hK hP hD hS 4 1 rfl rfl ⟨by omega, by omega⟩ (Nat.le_of_ble_eq_true rfl) dX7_snap_79 (fun H locs hP hD hS => ?_)
                have hP : va_P D vwCl (wM q C th ta fa 9 tape now (up (cpf (shf snaps 2772) now (2772) j) (2772 + j) (now j)) wo sc sa) H := hP
                have hD : va_D A (wM q C th ta fa 9 tape now (up (cpf (shf snaps 2772) now (2772) j) (2772 + j) (now j)) wo sc sa) := hD
                refine j_iinc (k := 0) (lv' := [(1, .int (iI (j + 1))), (0, .ref (q 36))]) hx hb dX7_snap_80 hl rfl (by decide) rfl (fun ls hl => ?_)
                refine lv_goto (tgt := 52) hx hb dX7_snap_83 rfl ?_
                rw [cpf_s g1.1] at hP hD
                exact ih52 (j + 1) ls H locs (by omega) (by omega) (lv_sub hl [0, 1] rfl) hP hD hS
          rw [← cpf_0 (shf snaps 2772) now (2772)] at hP hD
          exact L52 _ 0 ls H locs (by omega) (Nat.lt_succ_self _) (lv_sub hl [0, 1] rfl) hP hD hS
        · skip
          refine lv_aload_n hx hb dX7_snap_18 rfl (lv_at hl 1 rfl) ?_
          refine va_get (D := D) (ci := 7) (v := .ref (q 40)) (C := RX7) (T := TX7) (N := 23) hx hb hts (by decide +kernel) hown hK hP 0 rfl rfl 13 (by decide) (hts (.fieldLink RX7 80 "BreakSetterModel" "snaps" "[I") (by decide +kernel)) (fun _ h9 => h9) rfl dX7_snap_19 ?_
          refine lv_iload_n hx hb dX7_snap_22 rfl (lv_at hl 0 rfl) ?_
          refine lv_aload_n hx hb dX7_snap_23 rfl (lv_at hl 1 rfl) ?_
          refine va_get (D := D) (ci := 7) (v := .ref (q 40)) (C := RX7) (T := TX7) (N := 23) hx hb hts (by decide +kernel) hown hK hP 0 rfl rfl 13 (by decide) (hts (.fieldLink RX7 80 "BreakSetterModel" "snaps" "[I") (by decide +kernel)) (fun _ h9 => h9) rfl dX7_snap_24 ?_
          refine lv_iload_n hx hb dX7_snap_27 rfl (lv_at hl 0 rfl) ?_
          refine lv_sipush (v := iI (308)) hx hb dX7_snap_28 (by decide) ?_
          refine j_iadd hx hb dX7_snap_31 ?_
          refine j_iald hx hb hK hP 4 1 rfl rfl ⟨by omega, by omega⟩ (Nat.le_of_ble_eq_true rfl) dX7_snap_32 ?_
          refine j_iast hx hb hK hP hD hS 4 1 rfl rfl ⟨by omega, by omega⟩ (Nat.le_of_ble_eq_true rfl) dX7_snap_33 (fun H locs hP hD hS => ?_)
          have hP : va_P D vwCl (wM q C th ta fa 10 tape now (up (shf snaps i) i ((shf snaps i) (i + 308))) wo sc sa) H := hP
          have hD : va_D A (wM q C th ta fa 10 tape now (up (shf snaps i) i ((shf snaps i) (i + 308))) wo sc sa) := hD
          refine j_iinc (k := 0) (lv' := [(1, .int (iI (i + 1))), (0, .ref (q 36))]) hx hb dX7_snap_34 hl rfl (by decide) rfl (fun ls hl => ?_)
          refine lv_goto (tgt := 11) hx hb dX7_snap_37 rfl ?_
          rw [shf_s h1.1] at hP hD
          exact ih11 (i + 1) ls H locs (by omega) (by omega) (lv_sub hl [0, 1] rfl) hP hD hS
    rw [← shf_0 snaps] at hP hD
    exact L11 _ 0 ls s.heap [] (by omega) (Nat.lt_succ_self _) (lv_sub hl [0, 1] rfl) hP hD hS

set_option maxHeartbeats 4000000 in
set_option maxRecDepth 100000 in
theorem c_X7_place {l : Launch} {D : va_G} {C : Nat → ClassId} {q : Nat → Nat} {th ta fa sm : Int} {tape now snaps : Int → Int} {wo : Int64} {sc : Nat → Int} {sa : Nat → Int → Int} (hg : Wf now) (hsm : 0 ≤ sm ∧ sm ≤ 10) {kk tt : Int} (hk : R32 kk) (ht : R32 tt) : CI (S := Int × (Int → Int) × (Int → Int)) l yX7_place wsX7_place 3 66 D C [.ref (q 36), .int (iI (kk)), .int (iI (tt))] (wM q C th ta fa sm tape now snaps wo sc sa) (fun u => wM q C 0 ta fa (u.1) tape (u.2.1) (u.2.2) wo sc sa) (fun r u => r = iI (placeF sm now snaps kk tt).1 ∧ u = (placeF sm now snaps kk tt).2) := by
  refine CI_of (cc := cX7_place) (maxL := 4) (by decide) rfl (Nat.le_of_ble_eq_true rfl) ?_
  intro p e s m below meth c A Q ls hx hb hml hown hts hK hNW hA hl hP hD hS hret
  have hl : lv_has ls 4 [(0, .ref (q 36)), (1, .int (iI (kk))), (2, .int (iI (tt)))] := hl
  have n := Wf_n hg
  refine lv_aload_n hx hb dX7_place_0 rfl (lv_at hl 0 rfl) ?_
  refine lv_iconst (v := iI (0)) hx hb dX7_place_1 rfl ?_
  refine va_put (D := D) (ci := 7) (v := .int (iI (0))) (ty := .int) (C := RX7) (T := TX7) (N := 23) hx hb hts (by decide +kernel) tyX7 tyX7_ok nmX7 hown hK hP hD hS 0 rfl rfl 0 (by decide) (hts (.fieldLink RX7 1 "BreakSetterModel" "thrown" "I") (by decide +kernel)) (fun _ h9 => h9) rfl (by decide +kernel) rfl rfl (Nat.le_of_ble_eq_true rfl) dX7_place_2 (fun H locs hP hD hS => ?_)
  have hP : va_P D vwCl (wM q C 0 ta fa sm tape now snaps wo sc sa) H := hP
  have hD : va_D A (wM q C 0 ta fa sm tape now snaps wo sc sa) := hD
  refine lv_aload_n hx hb dX7_place_5 rfl (lv_at hl 0 rfl) ?_
  refine lv_iload_n hx hb dX7_place_6 rfl (lv_at hl 1 rfl) ?_
  refine CR_callV (As := [.int (iI (kk))]) (rest := []) ⟨hx, hb, hml, hown, hts⟩ (c_X7_isPause MN_wM hg hk) (cwV 1 hts gX7_place_X7_isPause rfl rfl rfl (by decide +kernel) ⟨Nat.le_of_ble_eq_true rfl, Nat.le_of_ble_eq_true rfl⟩) (q0 := 0) rfl rfl rfl hK hNW hP rfl hl.1 rfl (Nat.le_of_ble_eq_true rfl) dX7_place_7 ⟨Nat.zero_le _, Nat.zero_le _⟩ ?_
  refine j_ifeqB (tgt := 29) hx hb dX7_place_10 rfl (fun c10 => ?_) (fun c10 => ?_)
  · skip
    refine lv_iconst (v := iI (-1)) hx hb dX7_place_29 rfl ?_
    exact hret H locs ls 30 _ (sm, now, snaps) dX7_place_30 ⟨by unfold placeF; first | (rw [if_neg (by omega)]), by unfold placeF; first | (rw [if_neg (by omega)]; done)⟩ hP hD hS
  · skip
    refine lv_iload_n hx hb dX7_place_13 rfl (lv_at hl 2 rfl) ?_
    refine CR_callS (As := [.int (iI (tt))]) (rest := []) ⟨hx, hb, hml, hown, hts⟩ (c_X7_isSlot ht) (cwS 1 hts gX7_place_X7_isSlot rfl rfl rfl (by decide +kernel) ⟨Nat.le_of_ble_eq_true rfl, Nat.le_of_ble_eq_true rfl⟩) hK hNW hP rfl hl.1 rfl (Nat.le_of_ble_eq_true rfl) dX7_place_14 ⟨Nat.zero_le _, Nat.zero_le _⟩ ?_
    refine j_ifeqB (tgt := 29) hx hb dX7_place_17 rfl (fun c17 => ?_) (fun c17 => ?_)
    · skip
      refine lv_iconst (v := iI (-1)) hx hb dX7_place_29 rfl ?_
      exact hret H locs ls 30 _ (sm, now, snaps) dX7_place_30 ⟨by unfold placeF; first | (rw [if_neg (by omega)]), by unfold placeF; first | (rw [if_neg (by omega)]; done)⟩ hP hD hS
    · skip
      have b := Wf_p hg c10.1 c10.2
      refine lv_aload_n hx hb dX7_place_20 rfl (lv_at hl 0 rfl) ?_
      refine lv_iload_n hx hb dX7_place_21 rfl (lv_at hl 1 rfl) ?_
      refine CR_callV (As := [.int (iI (kk))]) (rest := []) ⟨hx, hb, hml, hown, hts⟩ (c_X7_placeOf MN_wM (by omega) (by omega)) (cwV 1 hts gX7_place_X7_placeOf rfl rfl rfl (by decide +kernel) ⟨Nat.le_of_ble_eq_true rfl, Nat.le_of_ble_eq_true rfl⟩) (q0 := 0) rfl rfl rfl hK hNW hP rfl hl.1 rfl (Nat.le_of_ble_eq_true rfl) dX7_place_22 ⟨Nat.zero_le _, Nat.zero_le _⟩ ?_
      refine lv_iload_n hx hb dX7_place_25 rfl (lv_at hl 2 rfl) ?_
      refine j_icmp_ne (tgt := 31) hx hb dX7_place_26 rfl ⟨by omega, by omega⟩ ht (fun c26 => ?_) (fun c26 => ?_)
      · skip
        refine lv_aload_n hx hb dX7_place_31 rfl (lv_at hl 0 rfl) ?_
        refine lv_iload_n hx hb dX7_place_32 rfl (lv_at hl 1 rfl) ?_
        refine lv_iload_n hx hb dX7_place_33 rfl (lv_at hl 2 rfl) ?_
        refine CR_callV (As := [.int (iI (kk)), .int (iI (tt))]) (rest := []) ⟨hx, hb, hml, hown, hts⟩ (c_X7_whyNot MN_wM hg (by omega) (by omega)) (cwV 2 hts gX7_place_X7_whyNot rfl rfl rfl (by decide +kernel) ⟨Nat.le_of_ble_eq_true rfl, Nat.le_of_ble_eq_true rfl⟩) (q0 := 0) rfl rfl rfl hK hNW hP rfl hl.1 rfl (Nat.le_of_ble_eq_true rfl) dX7_place_34 ⟨Nat.zero_le _, Nat.zero_le _⟩ ?_
        refine lv_istore_n (lv' := [(3, .int (iI (wy now kk tt))), (0, .ref (q 36)), (1, .int (iI (kk))), (2, .int (iI (tt)))]) hx hb dX7_place_37 rfl hl (by decide) rfl (fun ls hl => ?_)
        have yy := wy_rng now kk tt
        refine lv_iload_n hx hb dX7_place_38 rfl (lv_at hl 0 rfl) ?_
        refine j_if_le (tgt := 44) hx hb dX7_place_39 rfl ⟨by omega, by omega⟩ (fun c39 => ?_) (fun c39 => ?_)
        · skip
          refine lv_aload_n hx hb dX7_place_44 rfl (lv_at hl 1 rfl) ?_
          refine CV_callV0 (As := []) (rest := []) ⟨hx, hb, hml, hown, hts⟩ (c_X7_snap hsm) (cwV 0 hts gX7_place_X7_snap rfl rfl rfl (by decide +kernel) ⟨Nat.le_of_ble_eq_true rfl, Nat.le_of_ble_eq_true rfl⟩) (q0 := 0) rfl rfl rfl hK hNW hP hD hS hA rfl hl.1 rfl (Nat.le_of_ble_eq_true rfl) dX7_place_45 ⟨Nat.zero_le _, Nat.zero_le _⟩ (fun u H locs hw9 hP hD hS => ?_)
          have hP : va_P D vwCl (wM q C 0 ta fa (snapN sm) tape now (snapF sm snaps now) wo sc sa) H := hP
          have hD : va_D A (wM q C 0 ta fa (snapN sm) tape now (snapF sm snaps now) wo sc sa) := hD
          refine lv_aload_n hx hb dX7_place_48 rfl (lv_at hl 1 rfl) ?_
          refine lv_iload_n hx hb dX7_place_49 rfl (lv_at hl 2 rfl) ?_
          refine lv_iload_n hx hb dX7_place_50 rfl (lv_at hl 3 rfl) ?_
          refine CV_callV0 (As := [.int (iI (kk)), .int (iI (tt))]) (rest := []) ⟨hx, hb, hml, hown, hts⟩ (c_X7_lies (by omega) (by omega)) (cwV 2 hts gX7_place_X7_lies rfl rfl rfl (by decide +kernel) ⟨Nat.le_of_ble_eq_true rfl, Nat.le_of_ble_eq_true rfl⟩) (q0 := 0) rfl rfl rfl hK hNW hP hD hS hA rfl hl.1 rfl (Nat.le_of_ble_eq_true rfl) dX7_place_51 ⟨Nat.zero_le _, Nat.zero_le _⟩ (fun u H locs hw9 hP hD hS => ?_)
          have hP : va_P D vwCl (wM q C 0 ta fa (snapN sm) tape (lie now kk tt) (snapF sm snaps now) wo sc sa) H := hP
          have hD : va_D A (wM q C 0 ta fa (snapN sm) tape (lie now kk tt) (snapF sm snaps now) wo sc sa) := hD
          refine lv_iconst (v := iI (0)) hx hb dX7_place_54 rfl ?_
          exact hret H locs ls 55 _ (snapN sm, lie now kk tt, snapF sm snaps now) dX7_place_55 ⟨by unfold placeF; rw [if_pos ⟨⟨⟨by omega, by omega⟩, by omega, by omega⟩, c26⟩, if_neg (by omega)], by unfold placeF; rw [if_pos ⟨⟨⟨by omega, by omega⟩, by omega, by omega⟩, c26⟩, if_neg (by omega)]⟩ hP hD hS
        · skip
          refine lv_iload_n hx hb dX7_place_42 rfl (lv_at hl 0 rfl) ?_
          exact hret H locs ls 43 _ (sm, now, snaps) dX7_place_43 ⟨by unfold placeF; rw [if_pos ⟨⟨⟨by omega, by omega⟩, by omega, by omega⟩, c26⟩, if_pos (by omega)], by unfold placeF; rw [if_pos ⟨⟨⟨by omega, by omega⟩, by omega, by omega⟩, c26⟩, if_pos (by omega)]⟩ hP hD hS
      · skip
        refine lv_iconst (v := iI (-1)) hx hb dX7_place_29 rfl ?_
        exact hret H locs ls 30 _ (sm, now, snaps) dX7_place_30 ⟨by unfold placeF; first | (rw [if_neg (fun q => q.2 c26)]; done) | (rw [if_neg (by omega)]), by unfold placeF; first | (rw [if_neg (fun q => q.2 c26)]; done) | (rw [if_neg (by omega)]; done)⟩ hP hD hS

set_option maxHeartbeats 4000000 in
set_option maxRecDepth 100000 in
theorem c_X7_take {l : Launch} {D : va_G} {C : Nat → ClassId} {q : Nat → Nat} {th ta fa sm : Int} {tape now snaps : Int → Int} {wo : Int64} {sc : Nat → Int} {sa : Nat → Int → Int} (hg : Wf now) (hsm : 0 ≤ sm ∧ sm ≤ 10) {kk : Int} (hk : R32 kk) : CI (S := Int × (Int → Int) × (Int → Int)) l yX7_take wsX7_take 2 43 D C [.ref (q 36), .int (iI (kk))] (wM q C th ta fa sm tape now snaps wo sc sa) (fun u => wM q C 0 ta fa (u.1) tape (u.2.1) (u.2.2) wo sc sa) (fun r u => r = iI (takeF sm now snaps kk).1 ∧ u = (takeF sm now snaps kk).2) := by
  refine CI_of (cc := cX7_take) (maxL := 3) (by decide) rfl (Nat.le_of_ble_eq_true rfl) ?_
  intro p e s m below meth c A Q ls hx hb hml hown hts hK hNW hA hl hP hD hS hret
  have hl : lv_has ls 3 [(0, .ref (q 36)), (1, .int (iI (kk)))] := hl
  have n := Wf_n hg
  refine lv_aload_n hx hb dX7_take_0 rfl (lv_at hl 0 rfl) ?_
  refine lv_iconst (v := iI (0)) hx hb dX7_take_1 rfl ?_
  refine va_put (D := D) (ci := 7) (v := .int (iI (0))) (ty := .int) (C := RX7) (T := TX7) (N := 23) hx hb hts (by decide +kernel) tyX7 tyX7_ok nmX7 hown hK hP hD hS 0 rfl rfl 0 (by decide) (hts (.fieldLink RX7 1 "BreakSetterModel" "thrown" "I") (by decide +kernel)) (fun _ h9 => h9) rfl (by decide +kernel) rfl rfl (Nat.le_of_ble_eq_true rfl) dX7_take_2 (fun H locs hP hD hS => ?_)
  have hP : va_P D vwCl (wM q C 0 ta fa sm tape now snaps wo sc sa) H := hP
  have hD : va_D A (wM q C 0 ta fa sm tape now snaps wo sc sa) := hD
  refine lv_aload_n hx hb dX7_take_5 rfl (lv_at hl 0 rfl) ?_
  refine lv_iload_n hx hb dX7_take_6 rfl (lv_at hl 1 rfl) ?_
  refine CR_callV (As := [.int (iI (kk))]) (rest := []) ⟨hx, hb, hml, hown, hts⟩ (c_X7_isPause MN_wM hg hk) (cwV 1 hts gX7_take_X7_isPause rfl rfl rfl (by decide +kernel) ⟨Nat.le_of_ble_eq_true rfl, Nat.le_of_ble_eq_true rfl⟩) (q0 := 0) rfl rfl rfl hK hNW hP rfl hl.1 rfl (Nat.le_of_ble_eq_true rfl) dX7_take_7 ⟨Nat.zero_le _, Nat.zero_le _⟩ ?_
  refine j_ifeqB (tgt := 22) hx hb dX7_take_10 rfl (fun c10 => ?_) (fun c10 => ?_)
  · skip
    refine lv_iconst (v := iI (-1)) hx hb dX7_take_22 rfl ?_
    exact hret H locs ls 23 _ (sm, now, snaps) dX7_take_23 ⟨by unfold takeF; first | (rw [if_neg (fun q => c10 q.1)]), by unfold takeF; first | (rw [if_neg (fun q => c10 q.1)]; done)⟩ hP hD hS
  · skip
    have b := Wf_p hg c10.1 c10.2
    refine lv_aload_n hx hb dX7_take_13 rfl (lv_at hl 0 rfl) ?_
    refine lv_iload_n hx hb dX7_take_14 rfl (lv_at hl 1 rfl) ?_
    refine CR_callV (As := [.int (iI (kk))]) (rest := []) ⟨hx, hb, hml, hown, hts⟩ (c_X7_placeOf MN_wM (by omega) (by omega)) (cwV 1 hts gX7_take_X7_placeOf rfl rfl rfl (by decide +kernel) ⟨Nat.le_of_ble_eq_true rfl, Nat.le_of_ble_eq_true rfl⟩) (q0 := 0) rfl rfl rfl hK hNW hP rfl hl.1 rfl (Nat.le_of_ble_eq_true rfl) dX7_take_15 ⟨Nat.zero_le _, Nat.zero_le _⟩ ?_
    refine lv_iconst (v := iI (-1)) hx hb dX7_take_18 rfl ?_
    refine j_icmp_ne (tgt := 24) hx hb dX7_take_19 rfl ⟨by omega, by omega⟩ ⟨by decide, by decide⟩ (fun c19 => ?_) (fun c19 => ?_)
    · skip
      refine lv_aload_n hx hb dX7_take_24 rfl (lv_at hl 0 rfl) ?_
      refine CV_callV0 (As := []) (rest := []) ⟨hx, hb, hml, hown, hts⟩ (c_X7_snap hsm) (cwV 0 hts gX7_take_X7_snap rfl rfl rfl (by decide +kernel) ⟨Nat.le_of_ble_eq_true rfl, Nat.le_of_ble_eq_true rfl⟩) (q0 := 0) rfl rfl rfl hK hNW hP hD hS hA rfl hl.1 rfl (Nat.le_of_ble_eq_true rfl) dX7_take_25 ⟨Nat.zero_le _, Nat.zero_le _⟩ (fun u H locs hw9 hP hD hS => ?_)
      have hP : va_P D vwCl (wM q C 0 ta fa (snapN sm) tape now (snapF sm snaps now) wo sc sa) H := hP
      have hD : va_D A (wM q C 0 ta fa (snapN sm) tape now (snapF sm snaps now) wo sc sa) := hD
      refine lv_aload_n hx hb dX7_take_28 rfl (lv_at hl 0 rfl) ?_
      refine lv_iload_n hx hb dX7_take_29 rfl (lv_at hl 1 rfl) ?_
      refine CR_callV (As := [.int (iI (kk))]) (rest := []) ⟨hx, hb, hml, hown, hts⟩ (c_X7_placeOf MN_wM (by omega) (by omega)) (cwV 1 hts gX7_take_X7_placeOf rfl rfl rfl (by decide +kernel) ⟨Nat.le_of_ble_eq_true rfl, Nat.le_of_ble_eq_true rfl⟩) (q0 := 0) rfl rfl rfl hK hNW hP rfl hl.1 rfl (Nat.le_of_ble_eq_true rfl) dX7_take_30 ⟨Nat.zero_le _, Nat.zero_le _⟩ ?_
      refine lv_istore_n (lv' := [(2, .int (iI (now (192 + 5 * kk) - 1))), (0, .ref (q 36)), (1, .int (iI (kk)))]) hx hb dX7_take_33 rfl hl (by decide) rfl (fun ls hl => ?_)
      refine lv_aload_n hx hb dX7_take_34 rfl (lv_at hl 1 rfl) ?_
      refine lv_iload_n hx hb dX7_take_35 rfl (lv_at hl 2 rfl) ?_
      refine lv_iconst (v := iI (-1)) hx hb dX7_take_36 rfl ?_
      refine CV_callV0 (As := [.int (iI (kk)), .int (iI (-1))]) (rest := []) ⟨hx, hb, hml, hown, hts⟩ (c_X7_lies (by omega) (by omega)) (cwV 2 hts gX7_take_X7_lies rfl rfl rfl (by decide +kernel) ⟨Nat.le_of_ble_eq_true rfl, Nat.le_of_ble_eq_true rfl⟩) (q0 := 0) rfl rfl rfl hK hNW hP hD hS hA rfl hl.1 rfl (Nat.le_of_ble_eq_true rfl) dX7_take_37 ⟨Nat.zero_le _, Nat.zero_le _⟩ (fun u H locs hw9 hP hD hS => ?_)
      have hP : va_P D vwCl (wM q C 0 ta fa (snapN sm) tape (lie now kk (-1)) (snapF sm snaps now) wo sc sa) H := hP
      have hD : va_D A (wM q C 0 ta fa (snapN sm) tape (lie now kk (-1)) (snapF sm snaps now) wo sc sa) := hD
      refine lv_iload_n hx hb dX7_take_40 rfl (lv_at hl 0 rfl) ?_
      exact hret H locs ls 41 _ (snapN sm, lie now kk (-1), snapF sm snaps now) dX7_take_41 ⟨by unfold takeF; rw [if_pos ⟨c10, c19⟩], by unfold takeF; rw [if_pos ⟨c10, c19⟩]⟩ hP hD hS
    · skip
      refine lv_iconst (v := iI (-1)) hx hb dX7_take_22 rfl ?_
      exact hret H locs ls 23 _ (sm, now, snaps) dX7_take_23 ⟨by unfold takeF; first | (rw [if_neg (fun q => q.2 c19)]; done) | (rw [if_neg (fun q => c10 q.1)]), by unfold takeF; first | (rw [if_neg (fun q => q.2 c19)]; done) | (rw [if_neg (fun q => c10 q.1)]; done)⟩ hP hD hS

set_option maxHeartbeats 4000000 in
set_option maxRecDepth 100000 in
theorem c_X7_fill {l : Launch} {D : va_G} {C : Nat → ClassId} {q : Nat → Nat} {th ta fa sm : Int} {tape now snaps : Int → Int} {wo : Int64} {sc : Nat → Int} {sa : Nat → Int → Int} (hg : Wf now) (hsm : 0 ≤ sm ∧ sm ≤ 10) : CI (S := Int × (Int → Int) × (Int → Int)) l yX7_fill wsX7_fill 9 206 D C [.ref (q 36)] (wM q C th ta fa sm tape now snaps wo sc sa) (fun u => wM q C 0 ta fa (u.1) tape (u.2.1) (u.2.2) wo sc sa) (fun r u => r = iI (fillF sm now snaps).1 ∧ u = (fillF sm now snaps).2) := by
  refine CI_of (cc := cX7_fill) (maxL := 4) (by decide) rfl (Nat.le_of_ble_eq_true rfl) ?_
  intro p e s m below meth c A Q ls hx hb hml hown hts hK hNW hA hl hP hD hS hret
  have hl : lv_has ls 4 [(0, .ref (q 36))] := hl
  have n := Wf_n hg
  refine lv_aload_n hx hb dX7_fill_0 rfl (lv_at hl 0 rfl) ?_
  refine lv_iconst (v := iI (0)) hx hb dX7_fill_1 rfl ?_
  refine va_put (D := D) (ci := 7) (v := .int (iI (0))) (ty := .int) (C := RX7) (T := TX7) (N := 23) hx hb hts (by decide +kernel) tyX7 tyX7_ok nmX7 hown hK hP hD hS 0 rfl rfl 0 (by decide) (hts (.fieldLink RX7 1 "BreakSetterModel" "thrown" "I") (by decide +kernel)) (fun _ h9 => h9) rfl (by decide +kernel) rfl rfl (Nat.le_of_ble_eq_true rfl) dX7_fill_2 (fun H locs hP hD hS => ?_)
  have hP : va_P D vwCl (wM q C 0 ta fa sm tape now snaps wo sc sa) H := hP
  have hD : va_D A (wM q C 0 ta fa sm tape now snaps wo sc sa) := hD
  refine lv_aload_n hx hb dX7_fill_5 rfl (lv_at hl 0 rfl) ?_
  refine CV_callV0 (As := []) (rest := []) ⟨hx, hb, hml, hown, hts⟩ (c_X7_snap hsm) (cwV 0 hts gX7_fill_X7_snap rfl rfl rfl (by decide +kernel) ⟨Nat.le_of_ble_eq_true rfl, Nat.le_of_ble_eq_true rfl⟩) (q0 := 0) rfl rfl rfl hK hNW hP hD hS hA rfl hl.1 rfl (Nat.le_of_ble_eq_true rfl) dX7_fill_6 ⟨Nat.zero_le _, Nat.zero_le _⟩ (fun u H locs hw9 hP hD hS => ?_)
  have hP : va_P D vwCl (wM q C 0 ta fa (snapN sm) tape now (snapF sm snaps now) wo sc sa) H := hP
  have hD : va_D A (wM q C 0 ta fa (snapN sm) tape now (snapF sm snaps now) wo sc sa) := hD
  refine lv_iconst (v := iI (0)) hx hb dX7_fill_9 rfl ?_
  refine lv_istore_n (lv' := [(1, .int (iI (0))), (0, .ref (q 36))]) hx hb dX7_fill_10 rfl hl (by decide) rfl (fun ls hl => ?_)
  refine lv_iconst (v := iI (0)) hx hb dX7_fill_11 rfl ?_
  refine lv_istore_n (lv' := [(2, .int (iI (0))), (1, .int (iI (0))), (0, .ref (q 36))]) hx hb dX7_fill_12 rfl hl (by decide) rfl (fun ls hl => ?_)
  have L13 : ∀ (n : Nat) (i : Int) (cn : Int) (h : Int → Int) (ls : Array Slot) (H : Heap) (locs : List Loc), (0 ≤ i ∧ i ≤ now 3) → (cn = (flg now i.toNat).1) → (h = (flg now i.toNat).2) → ((now 3 - i).toNat < n) → (lv_has ls 4 [(2, .int (iI (i))), (1, .int (iI (cn))), (0, .ref (q 36))]) → (va_P D vwCl (wM q C 0 ta fa (snapN sm) tape h (snapF sm snaps now) wo sc sa) H) → (va_D A (wM q C 0 ta fa (snapN sm) tape h (snapF sm snaps now) wo sc sa)) → (va_S A s.heap H locs) → W p l e (rmN 9 206) s m ([.ref (q 36)] : List Value).toArray below meth c H locs 0 0 Q (F0 m 13 ls []) := by
    intro n
    induction n with
    | zero => intro i cn h ls H locs h1 h2 h3 hn; exact absurd hn (Nat.not_lt_zero _)
    | succ n ih13 =>
      intro i cn h ls H locs h1 h2 h3 hn hl hP hD hS
      have hn13 := hn
      have hp : flg now i.toNat = (cn, h) := by rw [h2, h3]
      have ok := flg_ok hg i.toNat (by omega)
      rw [hp] at ok
      obtain ⟨hh, he, ok1, ok2⟩ := ok
      have hh : Wf h := hh
      have he : SameP now h := he
      have ok1 : 0 ≤ cn := ok1
      have ok2 : cn ≤ (i.toNat : Int) := ok2
      have e3 := SameP_lo he (j := 3) (by omega)
      refine lv_iload_n hx hb dX7_fill_13 rfl (lv_at hl 0 rfl) ?_
      refine lv_aload_n hx hb dX7_fill_14 rfl (lv_at hl 2 rfl) ?_
      refine va_get (D := D) (ci := 7) (v := .ref (q 38)) (C := RX7) (T := TX7) (N := 23) hx hb hts (by decide +kernel) hown hK hP 0 rfl rfl 11 (by decide) (hts (.fieldLink RX7 74 "BreakSetterModel" "now" "[I") (by decide +kernel)) (fun _ h9 => h9) rfl dX7_fill_15 ?_
      refine lv_iconst (v := iI (3)) hx hb dX7_fill_18 rfl ?_
      refine j_iald hx hb hK hP 2 1 rfl rfl ⟨by omega, by omega⟩ (Nat.le_of_ble_eq_true rfl) dX7_fill_19 ?_
      refine j_icmp_ge (tgt := 65) hx hb dX7_fill_20 rfl ⟨by omega, by omega⟩ ⟨by omega, by omega⟩ (fun c20 => ?_) (fun c20 => ?_)
      · skip
        refine lv_iload_n hx hb dX7_fill_65 rfl (lv_at hl 1 rfl) ?_
        exact hret H locs ls 66 _ (snapN sm, h, snapF sm snaps now) dX7_fill_66 ⟨congrArg iI (by rw [h2, show i = now 3 by omega]; rfl), by rw [h3, show i = now 3 by omega]; rfl⟩ hP hD hS
      · skip
        have b := Wf_p hh (k := i) (by omega) (by omega)
        refine lv_aload_n hx hb dX7_fill_23 rfl (lv_at hl 2 rfl) ?_
        refine lv_iload_n hx hb dX7_fill_24 rfl (lv_at hl 0 rfl) ?_
        refine CR_callV (As := [.int (iI (i))]) (rest := []) ⟨hx, hb, hml, hown, hts⟩ (c_X7_placeOf MN_wM (by omega) (by omega)) (cwV 1 hts gX7_fill_X7_placeOf rfl rfl rfl (by decide +kernel) ⟨Nat.le_of_ble_eq_true rfl, Nat.le_of_ble_eq_true rfl⟩) (q0 := 0) rfl rfl rfl hK hNW hP rfl hl.1 rfl (Nat.le_of_ble_eq_true rfl) dX7_fill_25 ⟨Nat.zero_le _, Nat.zero_le _⟩ ?_
        refine lv_iconst (v := iI (-1)) hx hb dX7_fill_28 rfl ?_
        refine j_icmp_eq (tgt := 35) hx hb dX7_fill_29 rfl ⟨by omega, by omega⟩ ⟨by decide, by decide⟩ (fun c29 => ?_) (fun c29 => ?_)
        · skip
          refine lv_aload_n hx hb dX7_fill_35 rfl (lv_at hl 2 rfl) ?_
          refine lv_iload_n hx hb dX7_fill_36 rfl (lv_at hl 0 rfl) ?_
          refine CI_callV0 (As := [.int (iI (i))]) (rest := []) ⟨hx, hb, hml, hown, hts⟩ (c_X7_bestOf hh ⟨by omega, by omega⟩) (cwV 1 hts gX7_fill_X7_bestOf rfl rfl rfl (by decide +kernel) ⟨Nat.le_of_ble_eq_true rfl, Nat.le_of_ble_eq_true rfl⟩) (q0 := 0) rfl rfl rfl hK hNW hP hD hS hA rfl hl.1 rfl (Nat.le_of_ble_eq_true rfl) dX7_fill_37 ⟨Nat.zero_le _, Nat.zero_le _⟩ (fun r u H locs hw9 hP hD hS => ?_)
          have hw9 : r = iI (bestOf h i) := hw9
          subst hw9
          have hP : va_P D vwCl (wM q C 0 ta fa (snapN sm) tape h (snapF sm snaps now) wo sc sa) H := hP
          have hD : va_D A (wM q C 0 ta fa (snapN sm) tape h (snapF sm snaps now) wo sc sa) := hD
          refine lv_istore_n (lv' := [(3, .int (iI (bestOf h i))), (2, .int (iI (i))), (1, .int (iI (cn))), (0, .ref (q 36))]) hx hb dX7_fill_40 rfl hl (by decide) rfl (fun ls hl => ?_)
          have rb := bestOf_rng hh (k := i) (by omega) (by omega)
          refine lv_iload_n hx hb dX7_fill_41 rfl (lv_at hl 0 rfl) ?_
          refine lv_bipush (v := iI (-2)) hx hb dX7_fill_42 (by decide) ?_
          refine j_icmp_ne (tgt := 50) hx hb dX7_fill_44 rfl ⟨by omega, by omega⟩ ⟨by decide, by decide⟩ (fun c44 => ?_) (fun c44 => ?_)
          · skip
            refine lv_aload_n hx hb dX7_fill_50 rfl (lv_at hl 3 rfl) ?_
            refine lv_iload_n hx hb dX7_fill_51 rfl (lv_at hl 1 rfl) ?_
            refine lv_iload_n hx hb dX7_fill_52 rfl (lv_at hl 0 rfl) ?_
            refine CV_callV0 (As := [.int (iI (i)), .int (iI (bestOf h i))]) (rest := []) ⟨hx, hb, hml, hown, hts⟩ (c_X7_lies (by omega) (by omega)) (cwV 2 hts gX7_fill_X7_lies rfl rfl rfl (by decide +kernel) ⟨Nat.le_of_ble_eq_true rfl, Nat.le_of_ble_eq_true rfl⟩) (q0 := 0) rfl rfl rfl hK hNW hP hD hS hA rfl hl.1 rfl (Nat.le_of_ble_eq_true rfl) dX7_fill_53 ⟨Nat.zero_le _, Nat.zero_le _⟩ (fun u H locs hw9 hP hD hS => ?_)
            have hP : va_P D vwCl (wM q C 0 ta fa (snapN sm) tape (lie h i (bestOf h i)) (snapF sm snaps now) wo sc sa) H := hP
            have hD : va_D A (wM q C 0 ta fa (snapN sm) tape (lie h i (bestOf h i)) (snapF sm snaps now) wo sc sa) := hD
            refine j_iinc (k := 2) (lv' := [(1, .int (iI (cn + 1))), (3, .int (iI (bestOf h i))), (2, .int (iI (i))), (0, .ref (q 36))]) hx hb dX7_fill_56 hl rfl (by decide) rfl (fun ls hl => ?_)
            refine j_iinc (k := 2) (lv' := [(2, .int (iI (i + 1))), (1, .int (iI (cn + 1))), (3, .int (iI (bestOf h i))), (0, .ref (q 36))]) hx hb dX7_fill_59 hl rfl (by decide) rfl (fun ls hl => ?_)
            refine lv_goto (tgt := 13) hx hb dX7_fill_62 rfl ?_
            exact ih13 (i + 1) (cn + 1) (lie h i (bestOf h i)) ls H locs (by omega) (by rw [flg_s h1.1, hp]; unfold fstep; first | (rw [if_pos c29]; done) | (rw [if_neg (fun q => q c29), if_pos c44]; done) | (rw [if_neg (fun q => q c29), if_neg c44]; done)) (by rw [flg_s h1.1, hp]; unfold fstep; first | (rw [if_pos c29]; done) | (rw [if_neg (fun q => q c29), if_pos c44]; done) | (rw [if_neg (fun q => q c29), if_neg c44]; done)) (by omega) (lv_sub hl [0, 1, 3] rfl) hP hD hS
          · skip
            refine lv_goto (tgt := 59) hx hb dX7_fill_47 rfl ?_
            refine j_iinc (k := 1) (lv' := [(2, .int (iI (i + 1))), (3, .int (iI (bestOf h i))), (1, .int (iI (cn))), (0, .ref (q 36))]) hx hb dX7_fill_59 hl rfl (by decide) rfl (fun ls hl => ?_)
            refine lv_goto (tgt := 13) hx hb dX7_fill_62 rfl ?_
            exact ih13 (i + 1) cn h ls H locs (by omega) (by rw [flg_s h1.1, hp]; unfold fstep; first | (rw [if_pos c29]; done) | (rw [if_neg (fun q => q c29), if_pos c44]; done) | (rw [if_neg (fun q => q c29), if_neg c44]; done)) (by rw [flg_s h1.1, hp]; unfold fstep; first | (rw [if_pos c29]; done) | (rw [if_neg (fun q => q c29), if_pos c44]; done) | (rw [if_neg (fun q => q c29), if_neg c44]; done)) (by omega) (lv_sub hl [0, 2, 3] rfl) hP hD hS
        · skip
          refine lv_goto (tgt := 59) hx hb dX7_fill_32 rfl ?_
          refine j_iinc (k := 0) (lv' := [(2, .int (iI (i + 1))), (1, .int (iI (cn))), (0, .ref (q 36))]) hx hb dX7_fill_59 hl rfl (by decide) rfl (fun ls hl => ?_)
          refine lv_goto (tgt := 13) hx hb dX7_fill_62 rfl ?_
          exact ih13 (i + 1) cn h ls H locs (by omega) (by rw [flg_s h1.1, hp]; unfold fstep; (rw [if_pos c29]; done)) (by rw [flg_s h1.1, hp]; unfold fstep; (rw [if_pos c29]; done)) (by omega) (lv_sub hl [0, 1, 2] rfl) hP hD hS
  exact L13 _ 0 0 now ls H locs (by omega) rfl rfl (Nat.lt_succ_self _) (lv_sub hl [0, 1, 2] rfl) hP hD hS

set_option maxHeartbeats 4000000 in
set_option maxRecDepth 100000 in
theorem c_X7_settle {l : Launch} {D : va_G} {C : Nat → ClassId} {q : Nat → Nat} {th ta fa sm : Int} {tape now snaps : Int → Int} {wo : Int64} {sc : Nat → Int} {sa : Nat → Int → Int} (hg : Wf now) (hsm : 0 ≤ sm ∧ sm ≤ 10) : CI (S := Int × (Int → Int) × (Int → Int)) l yX7_settle wsX7_settle 9 206 D C [.ref (q 36)] (wM q C th ta fa sm tape now snaps wo sc sa) (fun u => wM q C 0 ta fa (u.1) tape (u.2.1) (u.2.2) wo sc sa) (fun r u => r = iI (settleF sm now snaps).1 ∧ u = (settleF sm now snaps).2) := by
  refine CI_of (cc := cX7_settle) (maxL := 3) (by decide) rfl (Nat.le_of_ble_eq_true rfl) ?_
  intro p e s m below meth c A Q ls hx hb hml hown hts hK hNW hA hl hP hD hS hret
  have hl : lv_has ls 3 [(0, .ref (q 36))] := hl
  have n := Wf_n hg
  have rb := betterOf_rng hg
  refine lv_aload_n hx hb dX7_settle_0 rfl (lv_at hl 0 rfl) ?_
  refine lv_iconst (v := iI (0)) hx hb dX7_settle_1 rfl ?_
  refine va_put (D := D) (ci := 7) (v := .int (iI (0))) (ty := .int) (C := RX7) (T := TX7) (N := 23) hx hb hts (by decide +kernel) tyX7 tyX7_ok nmX7 hown hK hP hD hS 0 rfl rfl 0 (by decide) (hts (.fieldLink RX7 1 "BreakSetterModel" "thrown" "I") (by decide +kernel)) (fun _ h9 => h9) rfl (by decide +kernel) rfl rfl (Nat.le_of_ble_eq_true rfl) dX7_settle_2 (fun H locs hP hD hS => ?_)
  have hP : va_P D vwCl (wM q C 0 ta fa sm tape now snaps wo sc sa) H := hP
  have hD : va_D A (wM q C 0 ta fa sm tape now snaps wo sc sa) := hD
  refine lv_aload_n hx hb dX7_settle_5 rfl (lv_at hl 0 rfl) ?_
  refine CI_callV0 (As := []) (rest := []) ⟨hx, hb, hml, hown, hts⟩ (c_X7_betterNow hg) (cwV 0 hts gX7_settle_X7_betterNow rfl rfl rfl (by decide +kernel) ⟨Nat.le_of_ble_eq_true rfl, Nat.le_of_ble_eq_true rfl⟩) (q0 := 0) rfl rfl rfl hK hNW hP hD hS hA rfl hl.1 rfl (Nat.le_of_ble_eq_true rfl) dX7_settle_6 ⟨Nat.zero_le _, Nat.zero_le _⟩ (fun r u H locs hw9 hP hD hS => ?_)
  have hw9 : r = iI (betterOf now) := hw9
  subst hw9
  have hP : va_P D vwCl (wM q C 0 ta fa sm tape now snaps wo sc sa) H := hP
  have hD : va_D A (wM q C 0 ta fa sm tape now snaps wo sc sa) := hD
  refine lv_istore_n (lv' := [(1, .int (iI (betterOf now))), (0, .ref (q 36))]) hx hb dX7_settle_9 rfl hl (by decide) rfl (fun ls hl => ?_)
  have r1 := betterOf_R hg
  refine lv_iload_n hx hb dX7_settle_10 rfl (lv_at hl 0 rfl) ?_
  refine lv_bipush (v := iI (-2)) hx hb dX7_settle_11 (by decide) ?_
  refine j_icmp_ne (tgt := 18) hx hb dX7_settle_13 rfl r1 ⟨by decide, by decide⟩ (fun c13 => ?_) (fun c13 => ?_)
  · skip
    refine lv_aload_n hx hb dX7_settle_18 rfl (lv_at hl 1 rfl) ?_
    refine CV_callV0 (As := []) (rest := []) ⟨hx, hb, hml, hown, hts⟩ (c_X7_snap hsm) (cwV 0 hts gX7_settle_X7_snap rfl rfl rfl (by decide +kernel) ⟨Nat.le_of_ble_eq_true rfl, Nat.le_of_ble_eq_true rfl⟩) (q0 := 0) rfl rfl rfl hK hNW hP hD hS hA rfl hl.1 rfl (Nat.le_of_ble_eq_true rfl) dX7_settle_19 ⟨Nat.zero_le _, Nat.zero_le _⟩ (fun u H locs hw9 hP hD hS => ?_)
    have hP : va_P D vwCl (wM q C 0 ta fa (snapN sm) tape now (snapF sm snaps now) wo sc sa) H := hP
    have hD : va_D A (wM q C 0 ta fa (snapN sm) tape now (snapF sm snaps now) wo sc sa) := hD
    refine lv_iconst (v := iI (0)) hx hb dX7_settle_22 rfl ?_
    refine lv_istore_n (lv' := [(2, .int (iI (0))), (1, .int (iI (betterOf now))), (0, .ref (q 36))]) hx hb dX7_settle_23 rfl hl (by decide) rfl (fun ls hl => ?_)
    have L24 : ∀ (n : Nat) (i : Int) (bb : Int) (h : Int → Int) (ls : Array Slot) (H : Heap) (locs : List Loc), (0 ≤ i ∧ i ≤ 40) → ((stl now i.toNat).1 = i) → (h = (stl now i.toNat).2) → (bb = betterOf h) → ((40 - i).toNat < n) → (lv_has ls 3 [(2, .int (iI (i))), (1, .int (iI (bb))), (0, .ref (q 36))]) → (va_P D vwCl (wM q C 0 ta fa (snapN sm) tape h (snapF sm snaps now) wo sc sa) H) → (va_D A (wM q C 0 ta fa (snapN sm) tape h (snapF sm snaps now) wo sc sa)) → (va_S A s.heap H locs) → W p l e (rmN 9 206) s m ([.ref (q 36)] : List Value).toArray below meth c H locs 0 0 Q (F0 m 24 ls []) := by
      intro n
      induction n with
      | zero => intro i bb h ls H locs h1 h2 h3 h4 hn; exact absurd hn (Nat.not_lt_zero _)
      | succ n ih24 =>
        intro i bb h ls H locs h1 h2 h3 h4 hn hl hP hD hS
        have hn24 := hn
        have ok := stl_ok hg i.toNat
        rw [← h3] at ok
        have n3 := Wf_n ok.1
        have r2 := betterOf_R ok.1
        refine lv_iload_n hx hb dX7_settle_24 rfl (lv_at hl 1 rfl) ?_
        refine lv_bipush (v := iI (-2)) hx hb dX7_settle_25 (by decide) ?_
        refine j_icmp_eq (tgt := 59) hx hb dX7_settle_27 rfl (by rw [h4]; exact r2) ⟨by decide, by decide⟩ (fun c27 => ?_) (fun c27 => ?_)
        · skip
          refine lv_iload_n hx hb dX7_settle_59 rfl (lv_at hl 0 rfl) ?_
          exact hret H locs ls 60 _ (snapN sm, h, snapF sm snaps now) dX7_settle_60 ⟨congrArg iI (by unfold settleF; rw [if_neg c13]; first | (rw [stl_40 h1 (by rw [← h3, ← h4]; exact c27)]; exact h2.symm; done) | (rw [show (40 : Nat) = i.toNat by omega]; exact h2.symm; done)), by unfold settleF; rw [if_neg c13]; first | (rw [stl_40 h1 (by rw [← h3, ← h4]; exact c27), ← h3]; done) | (rw [show (40 : Nat) = i.toNat by omega, ← h3]; done)⟩ hP hD hS
        · skip
          refine lv_iload_n hx hb dX7_settle_30 rfl (lv_at hl 0 rfl) ?_
          refine lv_bipush (v := iI (40)) hx hb dX7_settle_31 (by decide) ?_
          refine j_icmp_ge (tgt := 59) hx hb dX7_settle_33 rfl ⟨by omega, by omega⟩ ⟨by decide, by decide⟩ (fun c33 => ?_) (fun c33 => ?_)
          · skip
            refine lv_iload_n hx hb dX7_settle_59 rfl (lv_at hl 0 rfl) ?_
            exact hret H locs ls 60 _ (snapN sm, h, snapF sm snaps now) dX7_settle_60 ⟨congrArg iI (by unfold settleF; rw [if_neg c13]; first | (rw [stl_40 h1 (by rw [← h3, ← h4]; exact c27)]; exact h2.symm; done) | (rw [show (40 : Nat) = i.toNat by omega]; exact h2.symm; done)), by unfold settleF; rw [if_neg c13]; first | (rw [stl_40 h1 (by rw [← h3, ← h4]; exact c27), ← h3]; done) | (rw [show (40 : Nat) = i.toNat by omega, ← h3]; done)⟩ hP hD hS
          · skip
            obtain ⟨mw, ms, k, t, e1, k0, k1, t0, t1, e2⟩ := mv_ok ok.1 ok.2.1 (by rw [← h4]; exact c27)
            refine lv_aload_n hx hb dX7_settle_36 rfl (lv_at hl 2 rfl) ?_
            refine lv_iload_n hx hb dX7_settle_37 rfl (lv_at hl 1 rfl) ?_
            refine lv_bipush (v := iI (100)) hx hb dX7_settle_38 (by decide) ?_
            refine j_div100 (k := k) (t := t) hx hb (by rw [h4]; exact e1) ⟨by omega, by omega⟩ ⟨by omega, by omega⟩ dX7_settle_40 ?_
            refine lv_iload_n hx hb dX7_settle_41 rfl (lv_at hl 1 rfl) ?_
            refine lv_bipush (v := iI (100)) hx hb dX7_settle_42 (by decide) ?_
            refine j_rem100 (k := k) (t := t) hx hb (by rw [h4]; exact e1) ⟨by omega, by omega⟩ ⟨by omega, by omega⟩ dX7_settle_44 ?_
            refine CV_callV0 (As := [.int (iI (k)), .int (iI (t))]) (rest := []) ⟨hx, hb, hml, hown, hts⟩ (c_X7_lies (by omega) (by omega)) (cwV 2 hts gX7_settle_X7_lies rfl rfl rfl (by decide +kernel) ⟨Nat.le_of_ble_eq_true rfl, Nat.le_of_ble_eq_true rfl⟩) (q0 := 0) rfl rfl rfl hK hNW hP hD hS hA rfl hl.1 rfl (Nat.le_of_ble_eq_true rfl) dX7_settle_45 ⟨Nat.zero_le _, Nat.zero_le _⟩ (fun u H locs hw9 hP hD hS => ?_)
            have hP : va_P D vwCl (wM q C 0 ta fa (snapN sm) tape (lie h k t) (snapF sm snaps now) wo sc sa) H := hP
            have hD : va_D A (wM q C 0 ta fa (snapN sm) tape (lie h k t) (snapF sm snaps now) wo sc sa) := hD
            rw [← e2] at hP hD
            have hP : va_P D vwCl (wM q C 0 ta fa (snapN sm) tape (mv h) (snapF sm snaps now) wo sc sa) H := hP
            refine j_iinc (k := 0) (lv' := [(2, .int (iI (i + 1))), (1, .int (iI (bb))), (0, .ref (q 36))]) hx hb dX7_settle_48 hl rfl (by decide) rfl (fun ls hl => ?_)
            refine lv_aload_n hx hb dX7_settle_51 rfl (lv_at hl 2 rfl) ?_
            refine CI_callV0 (As := []) (rest := []) ⟨hx, hb, hml, hown, hts⟩ (c_X7_betterNow mw) (cwV 0 hts gX7_settle_X7_betterNow rfl rfl rfl (by decide +kernel) ⟨Nat.le_of_ble_eq_true rfl, Nat.le_of_ble_eq_true rfl⟩) (q0 := 0) rfl rfl rfl hK hNW hP hD hS hA rfl hl.1 rfl (Nat.le_of_ble_eq_true rfl) dX7_settle_52 ⟨Nat.zero_le _, Nat.zero_le _⟩ (fun r u H locs hw9 hP hD hS => ?_)
            have hw9 : r = iI (betterOf (mv h)) := hw9
            subst hw9
            have hP : va_P D vwCl (wM q C 0 ta fa (snapN sm) tape (mv h) (snapF sm snaps now) wo sc sa) H := hP
            have hD : va_D A (wM q C 0 ta fa (snapN sm) tape (mv h) (snapF sm snaps now) wo sc sa) := hD
            refine lv_istore_n (lv' := [(1, .int (iI (betterOf (mv h)))), (2, .int (iI (i + 1))), (0, .ref (q 36))]) hx hb dX7_settle_55 rfl hl (by decide) rfl (fun ls hl => ?_)
            refine lv_goto (tgt := 24) hx hb dX7_settle_56 rfl ?_
            exact ih24 (i + 1) (betterOf (mv h)) (mv h) ls H locs (by omega) (by rw [stl_s h1.1, ← h3, ← h4, if_neg c27]) (by rw [stl_s h1.1, ← h3, ← h4, if_neg c27]) rfl (by omega) (lv_sub hl [1, 0, 2] rfl) hP hD hS
    exact L24 _ 0 (betterOf now) now ls H locs (by omega) rfl rfl rfl (Nat.lt_succ_self _) (lv_sub hl [0, 1, 2] rfl) hP hD hS
  · skip
    refine lv_iconst (v := iI (-1)) hx hb dX7_settle_16 rfl ?_
    exact hret H locs ls 17 _ (sm, now, snaps) dX7_settle_17 ⟨by unfold settleF; rw [if_pos c13], by unfold settleF; rw [if_pos c13]⟩ hP hD hS

set_option maxHeartbeats 4000000 in
set_option maxRecDepth 100000 in
theorem c_X7_undo {l : Launch} {D : va_G} {C : Nat → ClassId} {q : Nat → Nat} {th ta fa sm : Int} {tape now snaps : Int → Int} {wo : Int64} {sc : Nat → Int} {sa : Nat → Int → Int} (hsm : 0 ≤ sm ∧ sm ≤ 10) : CI (S := Int × (Int → Int) × (Int → Int)) l yX7_undo wsX7_undo 0 0 D C [.ref (q 36)] (wM q C th ta fa sm tape now snaps wo sc sa) (fun u => wM q C 0 ta fa (u.1) tape (u.2.1) (u.2.2) wo sc sa) (fun r u => r = iI (undoF sm now snaps).1 ∧ u = (undoF sm now snaps).2) := by
  refine CI_of (cc := cX7_undo) (maxL := 2) (by decide) rfl (Nat.le_of_ble_eq_true rfl) ?_
  intro p e s m below meth c A Q ls hx hb hml hown hts hK hNW hA hl hP hD hS hret
  have hl : lv_has ls 2 [(0, .ref (q 36))] := hl
  refine lv_aload_n hx hb dX7_undo_0 rfl (lv_at hl 0 rfl) ?_
  refine lv_iconst (v := iI (0)) hx hb dX7_undo_1 rfl ?_
  refine va_put (D := D) (ci := 7) (v := .int (iI (0))) (ty := .int) (C := RX7) (T := TX7) (N := 23) hx hb hts (by decide +kernel) tyX7 tyX7_ok nmX7 hown hK hP hD hS 0 rfl rfl 0 (by decide) (hts (.fieldLink RX7 1 "BreakSetterModel" "thrown" "I") (by decide +kernel)) (fun _ h9 => h9) rfl (by decide +kernel) rfl rfl (Nat.le_of_ble_eq_true rfl) dX7_undo_2 (fun H locs hP hD hS => ?_)
  have hP : va_P D vwCl (wM q C 0 ta fa sm tape now snaps wo sc sa) H := hP
  have hD : va_D A (wM q C 0 ta fa sm tape now snaps wo sc sa) := hD
  refine lv_aload_n hx hb dX7_undo_5 rfl (lv_at hl 0 rfl) ?_
  refine va_get (D := D) (ci := 7) (v := .int (iI (sm))) (C := RX7) (T := TX7) (N := 23) hx hb hts (by decide +kernel) hown hK hP 0 rfl rfl 14 (by decide) (hts (.fieldLink RX7 152 "BreakSetterModel" "snapMany" "I") (by decide +kernel)) (fun _ h9 => h9) rfl dX7_undo_6 ?_
  refine j_if_ne (tgt := 14) hx hb dX7_undo_9 rfl ⟨by omega, by omega⟩ (fun c9 => ?_) (fun c9 => ?_)
  · skip
    refine lv_aload_n hx hb dX7_undo_14 rfl (lv_at hl 0 rfl) ?_
    refine lv_dup hx hb dX7_undo_15 rfl ?_
    refine va_get (D := D) (ci := 7) (v := .int (iI (sm))) (C := RX7) (T := TX7) (N := 23) hx hb hts (by decide +kernel) hown hK hP 0 rfl rfl 14 (by decide) (hts (.fieldLink RX7 152 "BreakSetterModel" "snapMany" "I") (by decide +kernel)) (fun _ h9 => h9) rfl dX7_undo_16 ?_
    refine lv_iconst (v := iI (1)) hx hb dX7_undo_19 rfl ?_
    refine j_isub hx hb dX7_undo_20 ?_
    refine va_put (D := D) (ci := 7) (v := .int (iI (sm - 1))) (ty := .int) (C := RX7) (T := TX7) (N := 23) hx hb hts (by decide +kernel) tyX7 tyX7_ok nmX7 hown hK hP hD hS 0 rfl rfl 14 (by decide) (hts (.fieldLink RX7 152 "BreakSetterModel" "snapMany" "I") (by decide +kernel)) (fun _ h9 => h9) rfl (by decide +kernel) rfl rfl (Nat.le_of_ble_eq_true rfl) dX7_undo_21 (fun H locs hP hD hS => ?_)
    have hP : va_P D vwCl (wM q C 0 ta fa (sm - 1) tape now snaps wo sc sa) H := hP
    have hD : va_D A (wM q C 0 ta fa (sm - 1) tape now snaps wo sc sa) := hD
    refine lv_iconst (v := iI (0)) hx hb dX7_undo_24 rfl ?_
    refine lv_istore_n (lv' := [(1, .int (iI (0))), (0, .ref (q 36))]) hx hb dX7_undo_25 rfl hl (by decide) rfl (fun ls hl => ?_)
    have L26 : ∀ (n : Nat) (i : Int) (ls : Array Slot) (H : Heap) (locs : List Loc), (0 ≤ i ∧ i ≤ 308) → ((308 - i).toNat < n) → (lv_has ls 2 [(1, .int (iI (i))), (0, .ref (q 36))]) → (va_P D vwCl (wM q C 0 ta fa (sm - 1) tape (cp0 now (fun k => snaps (308 * (sm - 1) + k)) i) snaps wo sc sa) H) → (va_D A (wM q C 0 ta fa (sm - 1) tape (cp0 now (fun k => snaps (308 * (sm - 1) + k)) i) snaps wo sc sa)) → (va_S A s.heap H locs) → W p l e (rmN 0 0) s m ([.ref (q 36)] : List Value).toArray below meth c H locs 0 0 Q (F0 m 26 ls []) := by
      intro n
      induction n with
      | zero => intro i ls H locs h1 hn; exact absurd hn (Nat.not_lt_zero _)
      | succ n ih26 =>
        intro i ls H locs h1 hn hl hP hD hS
        have hn26 := hn
        refine lv_iload_n hx hb dX7_undo_26 rfl (lv_at hl 0 rfl) ?_
        refine lv_sipush (v := iI (308)) hx hb dX7_undo_27 (by decide) ?_
        refine j_icmp_ge (tgt := 60) hx hb dX7_undo_30 rfl ⟨by omega, by omega⟩ ⟨by decide, by decide⟩ (fun c30 => ?_) (fun c30 => ?_)
        · skip
          obtain rfl : i = 308 := by omega
          have hl := lv_sub hl [1] rfl
          refine lv_aload_n hx hb dX7_undo_60 rfl (lv_at hl 0 rfl) ?_
          refine va_get (D := D) (ci := 7) (v := .int (iI (sm - 1))) (C := RX7) (T := TX7) (N := 23) hx hb hts (by decide +kernel) hown hK hP 0 rfl rfl 14 (by decide) (hts (.fieldLink RX7 152 "BreakSetterModel" "snapMany" "I") (by decide +kernel)) (fun _ h9 => h9) rfl dX7_undo_61 ?_
          exact hret H locs ls 64 _ (sm - 1, cp0 now (fun k => snaps (308 * (sm - 1) + k)) 308, snaps) dX7_undo_64 ⟨by unfold undoF; rw [if_neg c9], by unfold undoF; rw [if_neg c9]⟩ hP hD hS
        · skip
          refine lv_aload_n hx hb dX7_undo_33 rfl (lv_at hl 1 rfl) ?_
          refine va_get (D := D) (ci := 7) (v := .ref (q 38)) (C := RX7) (T := TX7) (N := 23) hx hb hts (by decide +kernel) hown hK hP 0 rfl rfl 11 (by decide) (hts (.fieldLink RX7 74 "BreakSetterModel" "now" "[I") (by decide +kernel)) (fun _ h9 => h9) rfl dX7_undo_34 ?_
          refine lv_iload_n hx hb dX7_undo_37 rfl (lv_at hl 0 rfl) ?_
          refine lv_aload_n hx hb dX7_undo_38 rfl (lv_at hl 1 rfl) ?_
          refine va_get (D := D) (ci := 7) (v := .ref (q 40)) (C := RX7) (T := TX7) (N := 23) hx hb hts (by decide +kernel) hown hK hP 0 rfl rfl 13 (by decide) (hts (.fieldLink RX7 80 "BreakSetterModel" "snaps" "[I") (by decide +kernel)) (fun _ h9 => h9) rfl dX7_undo_39 ?_
          refine lv_sipush (v := iI (308)) hx hb dX7_undo_42 (by decide) ?_
          refine lv_aload_n hx hb dX7_undo_45 rfl (lv_at hl 1 rfl) ?_
          refine va_get (D := D) (ci := 7) (v := .int (iI (sm - 1))) (C := RX7) (T := TX7) (N := 23) hx hb hts (by decide +kernel) hown hK hP 0 rfl rfl 14 (by decide) (hts (.fieldLink RX7 152 "BreakSetterModel" "snapMany" "I") (by decide +kernel)) (fun _ h9 => h9) rfl dX7_undo_46 ?_
          refine j_imul hx hb dX7_undo_49 ?_
          refine lv_iload_n hx hb dX7_undo_50 rfl (lv_at hl 0 rfl) ?_
          refine j_iadd hx hb dX7_undo_51 ?_
          refine j_iald hx hb hK hP 4 1 rfl rfl ⟨by omega, by omega⟩ (Nat.le_of_ble_eq_true rfl) dX7_undo_52 ?_
          refine j_iast hx hb hK hP hD hS 2 1 rfl rfl ⟨by omega, by omega⟩ (Nat.le_of_ble_eq_true rfl) dX7_undo_53 (fun H locs hP hD hS => ?_)
          have hP : va_P D vwCl (wM q C 0 ta fa (sm - 1) tape (up (cp0 now (fun k => snaps (308 * (sm - 1) + k)) i) i (snaps ((308 * (sm - 1)) + i))) snaps wo sc sa) H := hP
          have hD : va_D A (wM q C 0 ta fa (sm - 1) tape (up (cp0 now (fun k => snaps (308 * (sm - 1) + k)) i) i (snaps ((308 * (sm - 1)) + i))) snaps wo sc sa) := hD
          refine j_iinc (k := 0) (lv' := [(1, .int (iI (i + 1))), (0, .ref (q 36))]) hx hb dX7_undo_54 hl rfl (by decide) rfl (fun ls hl => ?_)
          refine lv_goto (tgt := 26) hx hb dX7_undo_57 rfl ?_
          rw [cp0_s (g := (fun k => snaps (308 * (sm - 1) + k))) h1.1] at hP hD
          exact ih26 (i + 1) ls H locs (by omega) (by omega) (lv_sub hl [0, 1] rfl) hP hD hS
    rw [← cp0_0 now (fun k => snaps (308 * (sm - 1) + k))] at hP hD
    exact L26 _ 0 ls H locs (by omega) (Nat.lt_succ_self _) (lv_sub hl [0, 1] rfl) hP hD hS
  · skip
    refine lv_iconst (v := iI (-1)) hx hb dX7_undo_12 rfl ?_
    exact hret H locs ls 13 _ (sm, now, snaps) dX7_undo_13 ⟨by unfold undoF; rw [if_pos c9], by unfold undoF; rw [if_pos c9]⟩ hP hD hS
