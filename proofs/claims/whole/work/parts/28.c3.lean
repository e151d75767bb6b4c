def wHi (q : Nat → Nat) (C : Nat → ClassId) (rows : Int → Int) (nr cn : Int) : va_W := [(q 34, .inr (0, [.ref (q 35), .int (iI nr), .int (iI cn)])), (q 35, .inl (C 1, 240, .inl (aI rows)))]
def wP1 (q : Nat → Nat) (C : Nat → ClassId) (pla : Int → Int) : va_W := [(q 29, .inl (C 1, 24, .inl (aI pla)))]
set_option maxHeartbeats 4000000 in
set_option maxRecDepth 100000 in
theorem c_X0_clear {l : Launch} {D : va_G} {C : Nat → ClassId} {q : Nat → Nat} {rows : Int → Int} {nr cn : Int} : CV (S := Unit) l yX0_clear wsX0_clear 0 0 D C [.ref (q 34)] (wHi q C rows nr cn) (fun _ => wHi q C rows nr 0) (fun _ => True) := by
  refine CV_of (cc := cX0_clear) (maxL := 1) (by decide) rfl (Nat.le_of_ble_eq_true rfl) ?_
  intro p e s m below meth c A Q ls hx hb hml hown hts hK hNW hA hl hP hD hS hret
  have hl : lv_has ls 1 [(0, .ref (q 34))] := hl
  refine lv_aload_n hx hb dX0_clear_0 rfl (lv_at hl 0 rfl) ?_
  refine lv_iconst (v := iI (0)) hx hb dX0_clear_1 rfl ?_
  refine va_put (D := D) (ci := 0) (v := .int (iI (0))) (ty := .int) (C := RX0) (T := TX0) (N := 3) hx hb hts (by decide +kernel) tyX0 tyX0_ok nmX0 hown hK hP hD hS 0 rfl rfl 2 (by decide) (hts (.fieldLink RX0 15 "BreakSetter$History" "count" "I") (by decide +kernel)) (fun _ h9 => h9) rfl (by decide +kernel) rfl rfl (Nat.le_of_ble_eq_true rfl) dX0_clear_2 (fun H locs hP hD hS => ?_)
  have hP : va_P D vwCl (wHi q C rows nr 0) H := hP
  have hD : va_D A (wHi q C rows nr 0) := hD
  exact hret H locs ls 5 () dX0_clear_5 trivial hP hD hS

set_option maxHeartbeats 4000000 in
set_option maxRecDepth 100000 in
theorem c_X0_keep {l : Launch} {D : va_G} {C : Nat → ClassId} {q : Nat → Nat} {rows pla : Int → Int} {nr cn : Int} (hn : 0 ≤ nr ∧ nr < 10) (hc : 0 ≤ cn ∧ cn ≤ 10)  : CV (S := Int) l yX0_keep wsX0_keep 1 60 D C [.ref (q 34), .ref (q 29)] (wHi q C rows nr cn ++ wP1 q C pla) (fun u => wHi q C (cpy pla rows 0 (nr * 24) 24) u (min (cn + 1) 10) ++ wP1 q C pla) (fun u => u = if nr = 9 then 0 else nr + 1) := by
  refine CV_of (cc := cX0_keep) (maxL := 2) (by decide) rfl (Nat.le_of_ble_eq_true rfl) ?_
  intro p e s m below meth c A Q ls hx hb hml hown hts hK hNW hA hl hP hD hS hret
  have hl : lv_has ls 2 [(0, .ref (q 34)), (1, .ref (q 29))] := hl
  refine lv_aload_n hx hb dX0_keep_0 rfl (lv_at hl 1 rfl) ?_
  refine lv_iconst (v := iI (0)) hx hb dX0_keep_1 rfl ?_
  refine lv_aload_n hx hb dX0_keep_2 rfl (lv_at hl 0 rfl) ?_
  refine va_get (D := D) (ci := 0) (v := .ref (q 35)) (C := RX0) (T := TX0) (N := 3) hx hb hts (by decide +kernel) hown hK hP 0 rfl rfl 0 (by decide) (hts (.fieldLink RX0 9 "BreakSetter$History" "rows" "[I") (by decide +kernel)) (fun _ h9 => h9) rfl dX0_keep_3 ?_
  refine lv_aload_n hx hb dX0_keep_6 rfl (lv_at hl 0 rfl) ?_
  refine va_get (D := D) (ci := 0) (v := .int (iI (nr))) (C := RX0) (T := TX0) (N := 3) hx hb hts (by decide +kernel) hown hK hP 0 rfl rfl 1 (by decide) (hts (.fieldLink RX0 19 "BreakSetter$History" "nextRow" "I") (by decide +kernel)) (fun _ h9 => h9) rfl dX0_keep_7 ?_
  refine lv_bipush (v := iI (24)) hx hb dX0_keep_10 (by decide) ?_
  refine j_imul hx hb dX0_keep_12 ?_
  refine lv_bipush (v := iI (24)) hx hb dX0_keep_13 (by decide) ?_
  refine j_copy hx hb (by rw [hml]; exact hl.1.symm) hown (hts (.methodLink RX0 22 arraycopyName) (by decide +kernel)) (hts (.native arraycopyName) (by decide +kernel)) (hts (.static arraycopyName) (by decide +kernel)) (hts (.initialized "java/lang/System") (by decide +kernel)) hK hP hD hS 2 1 rfl rfl (tt := true) rfl ⟨by omega, by omega, by omega⟩ ⟨by omega, by omega⟩ (by decide) (by decide) (Nat.le_of_ble_eq_true rfl) (Nat.le_of_ble_eq_true rfl) dX0_keep_15 (fun H locs hP hD hS => ?_)
  have hP : va_P D vwCl (wHi q C (cpy pla rows 0 (nr * 24) 24) nr cn ++ wP1 q C pla) H := hP
  have hD : va_D A (wHi q C (cpy pla rows 0 (nr * 24) 24) nr cn ++ wP1 q C pla) := hD
  refine lv_aload_n hx hb dX0_keep_18 rfl (lv_at hl 0 rfl) ?_
  refine lv_aload_n hx hb dX0_keep_19 rfl (lv_at hl 0 rfl) ?_
  refine va_get (D := D) (ci := 0) (v := .int (iI (nr))) (C := RX0) (T := TX0) (N := 3) hx hb hts (by decide +kernel) hown hK hP 0 rfl rfl 1 (by decide) (hts (.fieldLink RX0 19 "BreakSetter$History" "nextRow" "I") (by decide +kernel)) (fun _ h9 => h9) rfl dX0_keep_20 ?_
  refine lv_bipush (v := iI (9)) hx hb dX0_keep_23 (by decide) ?_
  refine j_icmp_ne (tgt := 32) hx hb dX0_keep_25 rfl ⟨by omega, by omega⟩ ⟨by decide, by decide⟩ (fun c25 => ?_) (fun c25 => ?_)
  · skip
    refine lv_aload_n hx hb dX0_keep_32 rfl (lv_at hl 0 rfl) ?_
    refine va_get (D := D) (ci := 0) (v := .int (iI (nr))) (C := RX0) (T := TX0) (N := 3) hx hb hts (by decide +kernel) hown hK hP 0 rfl rfl 1 (by decide) (hts (.fieldLink RX0 19 "BreakSetter$History" "nextRow" "I") (by decide +kernel)) (fun _ h9 => h9) rfl dX0_keep_33 ?_
    refine lv_iconst (v := iI (1)) hx hb dX0_keep_36 rfl ?_
    refine j_iadd hx hb dX0_keep_37 ?_
    refine va_put (D := D) (ci := 0) (v := .int (iI (nr + 1))) (ty := .int) (C := RX0) (T := TX0) (N := 3) hx hb hts (by decide +kernel) tyX0 tyX0_ok nmX0 hown hK hP hD hS 0 rfl rfl 1 (by decide) (hts (.fieldLink RX0 19 "BreakSetter$History" "nextRow" "I") (by decide +kernel)) (fun _ h9 => h9) rfl (by decide +kernel) rfl rfl (Nat.le_of_ble_eq_true rfl) dX0_keep_38 (fun H locs hP hD hS => ?_)
    have hP : va_P D vwCl (wHi q C (cpy pla rows 0 (nr * 24) 24) (nr + 1) cn ++ wP1 q C pla) H := hP
    have hD : va_D A (wHi q C (cpy pla rows 0 (nr * 24) 24) (nr + 1) cn ++ wP1 q C pla) := hD
    refine lv_aload_n hx hb dX0_keep_41 rfl (lv_at hl 0 rfl) ?_
    refine lv_aload_n hx hb dX0_keep_42 rfl (lv_at hl 0 rfl) ?_
    refine va_get (D := D) (ci := 0) (v := .int (iI (cn))) (C := RX0) (T := TX0) (N := 3) hx hb hts (by decide +kernel) hown hK hP 0 rfl rfl 2 (by decide) (hts (.fieldLink RX0 15 "BreakSetter$History" "count" "I") (by decide +kernel)) (fun _ h9 => h9) rfl dX0_keep_43 ?_
    refine lv_iconst (v := iI (1)) hx hb dX0_keep_46 rfl ?_
    refine j_iadd hx hb dX0_keep_47 ?_
    refine lv_bipush (v := iI (10)) hx hb dX0_keep_48 (by decide) ?_
    refine j_mmin hx hb (by rw [hml]; exact hl.1.symm) hown (hts (.methodLink RX0 28 Lib.Math.min.name) (by decide +kernel)) (hts (.static Lib.Math.min.name) (by decide +kernel)) (hts (.initialized "java/lang/Math") (by decide +kernel)) (hts (.code Lib.Math.min.name Lib.Math.min.code 2 (some .int)) (by decide +kernel)) (Nat.le_of_ble_eq_true rfl) (Nat.le_of_ble_eq_true rfl) (Nat.zero_le _) (Nat.zero_le _) ⟨by omega, by omega⟩ ⟨by decide, by decide⟩ dX0_keep_50 ?_
    refine va_put (D := D) (ci := 0) (v := .int (iI (min (cn + 1) 10))) (ty := .int) (C := RX0) (T := TX0) (N := 3) hx hb hts (by decide +kernel) tyX0 tyX0_ok nmX0 hown hK hP hD hS 0 rfl rfl 2 (by decide) (hts (.fieldLink RX0 15 "BreakSetter$History" "count" "I") (by decide +kernel)) (fun _ h9 => h9) rfl (by decide +kernel) rfl rfl (Nat.le_of_ble_eq_true rfl) dX0_keep_53 (fun H locs hP hD hS => ?_)
    have hP : va_P D vwCl (wHi q C (cpy pla rows 0 (nr * 24) 24) (nr + 1) (min (cn + 1) 10) ++ wP1 q C pla) H := hP
    have hD : va_D A (wHi q C (cpy pla rows 0 (nr * 24) 24) (nr + 1) (min (cn + 1) 10) ++ wP1 q C pla) := hD
    exact hret H locs ls 56 (nr + 1) dX0_keep_56 (by first | (rw [if_pos c25]; done) | (rw [if_neg c25]; done)) hP hD hS
  · skip
    refine lv_iconst (v := iI (0)) hx hb dX0_keep_28 rfl ?_
    refine lv_goto (tgt := 38) hx hb dX0_keep_29 rfl ?_
    refine va_put (D := D) (ci := 0) (v := .int (iI (0))) (ty := .int) (C := RX0) (T := TX0) (N := 3) hx hb hts (by decide +kernel) tyX0 tyX0_ok nmX0 hown hK hP hD hS 0 rfl rfl 1 (by decide) (hts (.fieldLink RX0 19 "BreakSetter$History" "nextRow" "I") (by decide +kernel)) (fun _ h9 => h9) rfl (by decide +kernel) rfl rfl (Nat.le_of_ble_eq_true rfl) dX0_keep_38 (fun H locs hP hD hS => ?_)
    have hP : va_P D vwCl (wHi q C (cpy pla rows 0 (nr * 24) 24) 0 cn ++ wP1 q C pla) H := hP
    have hD : va_D A (wHi q C (cpy pla rows 0 (nr * 24) 24) 0 cn ++ wP1 q C pla) := hD
    refine lv_aload_n hx hb dX0_keep_41 rfl (lv_at hl 0 rfl) ?_
    refine lv_aload_n hx hb dX0_keep_42 rfl (lv_at hl 0 rfl) ?_
    refine va_get (D := D) (ci := 0) (v := .int (iI (cn))) (C := RX0) (T := TX0) (N := 3) hx hb hts (by decide +kernel) hown hK hP 0 rfl rfl 2 (by decide) (hts (.fieldLink RX0 15 "BreakSetter$History" "count" "I") (by decide +kernel)) (fun _ h9 => h9) rfl dX0_keep_43 ?_
    refine lv_iconst (v := iI (1)) hx hb dX0_keep_46 rfl ?_
    refine j_iadd hx hb dX0_keep_47 ?_
    refine lv_bipush (v := iI (10)) hx hb dX0_keep_48 (by decide) ?_
    refine j_mmin hx hb (by rw [hml]; exact hl.1.symm) hown (hts (.methodLink RX0 28 Lib.Math.min.name) (by decide +kernel)) (hts (.static Lib.Math.min.name) (by decide +kernel)) (hts (.initialized "java/lang/Math") (by decide +kernel)) (hts (.code Lib.Math.min.name Lib.Math.min.code 2 (some .int)) (by decide +kernel)) (Nat.le_of_ble_eq_true rfl) (Nat.le_of_ble_eq_true rfl) (Nat.zero_le _) (Nat.zero_le _) ⟨by omega, by omega⟩ ⟨by decide, by decide⟩ dX0_keep_50 ?_
    refine va_put (D := D) (ci := 0) (v := .int (iI (min (cn + 1) 10))) (ty := .int) (C := RX0) (T := TX0) (N := 3) hx hb hts (by decide +kernel) tyX0 tyX0_ok nmX0 hown hK hP hD hS 0 rfl rfl 2 (by decide) (hts (.fieldLink RX0 15 "BreakSetter$History" "count" "I") (by decide +kernel)) (fun _ h9 => h9) rfl (by decide +kernel) rfl rfl (Nat.le_of_ble_eq_true rfl) dX0_keep_53 (fun H locs hP hD hS => ?_)
    have hP : va_P D vwCl (wHi q C (cpy pla rows 0 (nr * 24) 24) 0 (min (cn + 1) 10) ++ wP1 q C pla) H := hP
    have hD : va_D A (wHi q C (cpy pla rows 0 (nr * 24) 24) 0 (min (cn + 1) 10) ++ wP1 q C pla) := hD
    exact hret H locs ls 56 0 dX0_keep_56 (by first | (rw [if_pos c25]; done) | (rw [if_neg c25]; done)) hP hD hS

set_option maxHeartbeats 4000000 in
set_option maxRecDepth 100000 in
theorem c_X0_bringBack {l : Launch} {D : va_G} {C : Nat → ClassId} {q : Nat → Nat} {rows pla : Int → Int} {nr cn : Int} (hn : 0 ≤ nr ∧ nr < 10) (hc : 0 ≤ cn ∧ cn ≤ 10) (h0 : 0 < cn)  : CV (S := Int) l yX0_bringBack wsX0_bringBack 1 60 D C [.ref (q 34), .ref (q 29)] (wHi q C rows nr cn ++ wP1 q C pla) (fun u => wHi q C rows u (cn - 1) ++ wP1 q C (cpy rows pla (u * 24) 0 24)) (fun u => u = if nr = 0 then 9 else nr - 1) := by
  refine CV_of (cc := cX0_bringBack) (maxL := 2) (by decide) rfl (Nat.le_of_ble_eq_true rfl) ?_
  intro p e s m below meth c A Q ls hx hb hml hown hts hK hNW hA hl hP hD hS hret
  have hl : lv_has ls 2 [(0, .ref (q 34)), (1, .ref (q 29))] := hl
  refine lv_aload_n hx hb dX0_bringBack_0 rfl (lv_at hl 0 rfl) ?_
  refine lv_aload_n hx hb dX0_bringBack_1 rfl (lv_at hl 0 rfl) ?_
  refine va_get (D := D) (ci := 0) (v := .int (iI (nr))) (C := RX0) (T := TX0) (N := 3) hx hb hts (by decide +kernel) hown hK hP 0 rfl rfl 1 (by decide) (hts (.fieldLink RX0 19 "BreakSetter$History" "nextRow" "I") (by decide +kernel)) (fun _ h9 => h9) rfl dX0_bringBack_2 ?_
  refine j_if_ne (tgt := 13) hx hb dX0_bringBack_5 rfl ⟨by omega, by omega⟩ (fun c5 => ?_) (fun c5 => ?_)
  · skip
    refine lv_aload_n hx hb dX0_bringBack_13 rfl (lv_at hl 0 rfl) ?_
    refine va_get (D := D) (ci := 0) (v := .int (iI (nr))) (C := RX0) (T := TX0) (N := 3) hx hb hts (by decide +kernel) hown hK hP 0 rfl rfl 1 (by decide) (hts (.fieldLink RX0 19 "BreakSetter$History" "nextRow" "I") (by decide +kernel)) (fun _ h9 => h9) rfl dX0_bringBack_14 ?_
    refine lv_iconst (v := iI (1)) hx hb dX0_bringBack_17 rfl ?_
    refine j_isub hx hb dX0_bringBack_18 ?_
    refine va_put (D := D) (ci := 0) (v := .int (iI (nr - 1))) (ty := .int) (C := RX0) (T := TX0) (N := 3) hx hb hts (by decide +kernel) tyX0 tyX0_ok nmX0 hown hK hP hD hS 0 rfl rfl 1 (by decide) (hts (.fieldLink RX0 19 "BreakSetter$History" "nextRow" "I") (by decide +kernel)) (fun _ h9 => h9) rfl (by decide +kernel) rfl rfl (Nat.le_of_ble_eq_true rfl) dX0_bringBack_19 (fun H locs hP hD hS => ?_)
    have hP : va_P D vwCl (wHi q C rows (nr - 1) cn ++ wP1 q C pla) H := hP
    have hD : va_D A (wHi q C rows (nr - 1) cn ++ wP1 q C pla) := hD
    refine lv_aload_n hx hb dX0_bringBack_22 rfl (lv_at hl 0 rfl) ?_
    refine lv_dup hx hb dX0_bringBack_23 rfl ?_
    refine va_get (D := D) (ci := 0) (v := .int (iI (cn))) (C := RX0) (T := TX0) (N := 3) hx hb hts (by decide +kernel) hown hK hP 0 rfl rfl 2 (by decide) (hts (.fieldLink RX0 15 "BreakSetter$History" "count" "I") (by decide +kernel)) (fun _ h9 => h9) rfl dX0_bringBack_24 ?_
    refine lv_iconst (v := iI (1)) hx hb dX0_bringBack_27 rfl ?_
    refine j_isub hx hb dX0_bringBack_28 ?_
    refine va_put (D := D) (ci := 0) (v := .int (iI (cn - 1))) (ty := .int) (C := RX0) (T := TX0) (N := 3) hx hb hts (by decide +kernel) tyX0 tyX0_ok nmX0 hown hK hP hD hS 0 rfl rfl 2 (by decide) (hts (.fieldLink RX0 15 "BreakSetter$History" "count" "I") (by decide +kernel)) (fun _ h9 => h9) rfl (by decide +kernel) rfl rfl (Nat.le_of_ble_eq_true rfl) dX0_bringBack_29 (fun H locs hP hD hS => ?_)
    have hP : va_P D vwCl (wHi q C rows (nr - 1) (cn - 1) ++ wP1 q C pla) H := hP
    have hD : va_D A (wHi q C rows (nr - 1) (cn - 1) ++ wP1 q C pla) := hD
    refine lv_aload_n hx hb dX0_bringBack_32 rfl (lv_at hl 0 rfl) ?_
    refine va_get (D := D) (ci := 0) (v := .ref (q 35)) (C := RX0) (T := TX0) (N := 3) hx hb hts (by decide +kernel) hown hK hP 0 rfl rfl 0 (by decide) (hts (.fieldLink RX0 9 "BreakSetter$History" "rows" "[I") (by decide +kernel)) (fun _ h9 => h9) rfl dX0_bringBack_33 ?_
    refine lv_aload_n hx hb dX0_bringBack_36 rfl (lv_at hl 0 rfl) ?_
    refine va_get (D := D) (ci := 0) (v := .int (iI (nr - 1))) (C := RX0) (T := TX0) (N := 3) hx hb hts (by decide +kernel) hown hK hP 0 rfl rfl 1 (by decide) (hts (.fieldLink RX0 19 "BreakSetter$History" "nextRow" "I") (by decide +kernel)) (fun _ h9 => h9) rfl dX0_bringBack_37 ?_
    refine lv_bipush (v := iI (24)) hx hb dX0_bringBack_40 (by decide) ?_
    refine j_imul hx hb dX0_bringBack_42 ?_
    refine lv_aload_n hx hb dX0_bringBack_43 rfl (lv_at hl 1 rfl) ?_
    refine lv_iconst (v := iI (0)) hx hb dX0_bringBack_44 rfl ?_
    refine lv_bipush (v := iI (24)) hx hb dX0_bringBack_45 (by decide) ?_
    refine j_copy hx hb (by rw [hml]; exact hl.1.symm) hown (hts (.methodLink RX0 22 arraycopyName) (by decide +kernel)) (hts (.native arraycopyName) (by decide +kernel)) (hts (.static arraycopyName) (by decide +kernel)) (hts (.initialized "java/lang/System") (by decide +kernel)) hK hP hD hS 1 2 rfl rfl (tt := true) rfl ⟨by omega, by omega, by omega⟩ ⟨by omega, by omega⟩ (by decide) (by decide) (Nat.le_of_ble_eq_true rfl) (Nat.le_of_ble_eq_true rfl) dX0_bringBack_47 (fun H locs hP hD hS => ?_)
    have hP : va_P D vwCl (wHi q C rows (nr - 1) (cn - 1) ++ wP1 q C (cpy rows pla ((nr - 1) * 24) 0 24)) H := hP
    have hD : va_D A (wHi q C rows (nr - 1) (cn - 1) ++ wP1 q C (cpy rows pla ((nr - 1) * 24) 0 24)) := hD
    exact hret H locs ls 50 (nr - 1) dX0_bringBack_50 (by first | (rw [if_pos c5]; done) | (rw [if_neg c5]; done)) hP hD hS
  · skip
    refine lv_bipush (v := iI (9)) hx hb dX0_bringBack_8 (by decide) ?_
    refine lv_goto (tgt := 19) hx hb dX0_bringBack_10 rfl ?_
    refine va_put (D := D) (ci := 0) (v := .int (iI (9))) (ty := .int) (C := RX0) (T := TX0) (N := 3) hx hb hts (by decide +kernel) tyX0 tyX0_ok nmX0 hown hK hP hD hS 0 rfl rfl 1 (by decide) (hts (.fieldLink RX0 19 "BreakSetter$History" "nextRow" "I") (by decide +kernel)) (fun _ h9 => h9) rfl (by decide +kernel) rfl rfl (Nat.le_of_ble_eq_true rfl) dX0_bringBack_19 (fun H locs hP hD hS => ?_)
    have hP : va_P D vwCl (wHi q C rows 9 cn ++ wP1 q C pla) H := hP
    have hD : va_D A (wHi q C rows 9 cn ++ wP1 q C pla) := hD
    refine lv_aload_n hx hb dX0_bringBack_22 rfl (lv_at hl 0 rfl) ?_
    refine lv_dup hx hb dX0_bringBack_23 rfl ?_
    refine va_get (D := D) (ci := 0) (v := .int (iI (cn))) (C := RX0) (T := TX0) (N := 3) hx hb hts (by decide +kernel) hown hK hP 0 rfl rfl 2 (by decide) (hts (.fieldLink RX0 15 "BreakSetter$History" "count" "I") (by decide +kernel)) (fun _ h9 => h9) rfl dX0_bringBack_24 ?_
    refine lv_iconst (v := iI (1)) hx hb dX0_bringBack_27 rfl ?_
    refine j_isub hx hb dX0_bringBack_28 ?_
    refine va_put (D := D) (ci := 0) (v := .int (iI (cn - 1))) (ty := .int) (C := RX0) (T := TX0) (N := 3) hx hb hts (by decide +kernel) tyX0 tyX0_ok nmX0 hown hK hP hD hS 0 rfl rfl 2 (by decide) (hts (.fieldLink RX0 15 "BreakSetter$History" "count" "I") (by decide +kernel)) (fun _ h9 => h9) rfl (by decide +kernel) rfl rfl (Nat.le_of_ble_eq_true rfl) dX0_bringBack_29 (fun H locs hP hD hS => ?_)
    have hP : va_P D vwCl (wHi q C rows 9 (cn - 1) ++ wP1 q C pla) H := hP
    have hD : va_D A (wHi q C rows 9 (cn - 1) ++ wP1 q C pla) := hD
    refine lv_aload_n hx hb dX0_bringBack_32 rfl (lv_at hl 0 rfl) ?_
    refine va_get (D := D) (ci := 0) (v := .ref (q 35)) (C := RX0) (T := TX0) (N := 3) hx hb hts (by decide +kernel) hown hK hP 0 rfl rfl 0 (by decide) (hts (.fieldLink RX0 9 "BreakSetter$History" "rows" "[I") (by decide +kernel)) (fun _ h9 => h9) rfl dX0_bringBack_33 ?_
    refine lv_aload_n hx hb dX0_bringBack_36 rfl (lv_at hl 0 rfl) ?_
    refine va_get (D := D) (ci := 0) (v := .int (iI (9))) (C := RX0) (T := TX0) (N := 3) hx hb hts (by decide +kernel) hown hK hP 0 rfl rfl 1 (by decide) (hts (.fieldLink RX0 19 "BreakSetter$History" "nextRow" "I") (by decide +kernel)) (fun _ h9 => h9) rfl dX0_bringBack_37 ?_
    refine lv_bipush (v := iI (24)) hx hb dX0_bringBack_40 (by decide) ?_
    refine j_imul hx hb dX0_bringBack_42 ?_
    refine lv_aload_n hx hb dX0_bringBack_43 rfl (lv_at hl 1 rfl) ?_
    refine lv_iconst (v := iI (0)) hx hb dX0_bringBack_44 rfl ?_
    refine lv_bipush (v := iI (24)) hx hb dX0_bringBack_45 (by decide) ?_
    refine j_copy hx hb (by rw [hml]; exact hl.1.symm) hown (hts (.methodLink RX0 22 arraycopyName) (by decide +kernel)) (hts (.native arraycopyName) (by decide +kernel)) (hts (.static arraycopyName) (by decide +kernel)) (hts (.initialized "java/lang/System") (by decide +kernel)) hK hP hD hS 1 2 rfl rfl (tt := true) rfl ⟨by omega, by omega, by omega⟩ ⟨by omega, by omega⟩ (by decide) (by decide) (Nat.le_of_ble_eq_true rfl) (Nat.le_of_ble_eq_true rfl) dX0_bringBack_47 (fun H locs hP hD hS => ?_)
    have hP : va_P D vwCl (wHi q C rows 9 (cn - 1) ++ wP1 q C (cpy rows pla 216 0 24)) H := hP
    have hD : va_D A (wHi q C rows 9 (cn - 1) ++ wP1 q C (cpy rows pla 216 0 24)) := hD
    exact hret H locs ls 50 9 dX0_bringBack_50 (by first | (rw [if_pos c5]; done) | (rw [if_neg c5]; done)) hP hD hS
