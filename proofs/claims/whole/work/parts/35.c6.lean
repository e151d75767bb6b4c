def sb (z : Int) : Int := if z < 128 then z else z - 256
def sbf (f : Int → Int) : Int → Int := fun k => sb (f k)
theorem sbf_up {f : Int → Int} {z v : Int} : up (sbf f) z (sb v) = sbf (up f z v) := by
  funext k
  unfold sbf
  by_cases e : k = z
  · rw [e, up_s, up_s]
  · rw [up_n _ _ e, up_n _ _ e]
theorem sb_and8 : ∀ n : Nat, n < 256 → iI (sb (n : Int)) &&& iI 255 = iI (n : Int) := by decide +kernel
theorem sb_and {c : Int} (h : 0 ≤ c ∧ c < 256) : iI (sb c) &&& iI 255 = iI c := by
  have := sb_and8 c.toNat (by omega)
  rw [Int.toNat_of_nonneg h.1] at this
  exact this
theorem by4_s24 (z : Int) : (iI z >>> (iI 24 &&& 31)).toInt8.toInt32 = iI (sb (by4 z 24)) := by
  apply Int32.toInt_inj.mp
  have e1 := pk_shr (iI z) (iI 24 &&& 31) 24 (by decide)
  rw [Int.shiftRight_eq_div_pow] at e1
  have e2 : (iI z).toInt = if 2 * (iI z).toBitVec.toNat < 2 ^ 32 then ((iI z).toBitVec.toNat : Int) else ((iI z).toBitVec.toNat : Int) - (2 ^ 32 : Nat) := BitVec.toInt_eq_toNat_cond _
  have r := by4_rng z 24
  have e3 : by4 z 24 = (((iI z).toBitVec.toNat / 2 ^ 24 % 256 : Nat) : Int) := rfl
  generalize (iI z).toBitVec.toNat = Z at e2 e3
  have hR : R32 (sb (by4 z 24)) := by unfold sb R32; omega
  rw [Int8.toInt_toInt32, Int32.toInt_toInt8, e1, iI_toInt hR, Int.bmod_def]
  unfold sb
  omega
theorem by4_s16 (z : Int) : (iI z >>> (iI 16 &&& 31)).toInt8.toInt32 = iI (sb (by4 z 16)) := by
  apply Int32.toInt_inj.mp
  have e1 := pk_shr (iI z) (iI 16 &&& 31) 16 (by decide)
  rw [Int.shiftRight_eq_div_pow] at e1
  have e2 : (iI z).toInt = if 2 * (iI z).toBitVec.toNat < 2 ^ 32 then ((iI z).toBitVec.toNat : Int) else ((iI z).toBitVec.toNat : Int) - (2 ^ 32 : Nat) := BitVec.toInt_eq_toNat_cond _
  have r := by4_rng z 16
  have e3 : by4 z 16 = (((iI z).toBitVec.toNat / 2 ^ 16 % 256 : Nat) : Int) := rfl
  generalize (iI z).toBitVec.toNat = Z at e2 e3
  have hR : R32 (sb (by4 z 16)) := by unfold sb R32; omega
  rw [Int8.toInt_toInt32, Int32.toInt_toInt8, e1, iI_toInt hR, Int.bmod_def]
  unfold sb
  omega
theorem by4_s8 (z : Int) : (iI z >>> (iI 8 &&& 31)).toInt8.toInt32 = iI (sb (by4 z 8)) := by
  apply Int32.toInt_inj.mp
  have e1 := pk_shr (iI z) (iI 8 &&& 31) 8 (by decide)
  rw [Int.shiftRight_eq_div_pow] at e1
  have e2 : (iI z).toInt = if 2 * (iI z).toBitVec.toNat < 2 ^ 32 then ((iI z).toBitVec.toNat : Int) else ((iI z).toBitVec.toNat : Int) - (2 ^ 32 : Nat) := BitVec.toInt_eq_toNat_cond _
  have r := by4_rng z 8
  have e3 : by4 z 8 = (((iI z).toBitVec.toNat / 2 ^ 8 % 256 : Nat) : Int) := rfl
  generalize (iI z).toBitVec.toNat = Z at e2 e3
  have hR : R32 (sb (by4 z 8)) := by unfold sb R32; omega
  rw [Int8.toInt_toInt32, Int32.toInt_toInt8, e1, iI_toInt hR, Int.bmod_def]
  unfold sb
  omega
theorem by4_s0 (z : Int) : (iI z >>> (iI 0 &&& 31)).toInt8.toInt32 = iI (sb (by4 z 0)) := by
  apply Int32.toInt_inj.mp
  have e1 := pk_shr (iI z) (iI 0 &&& 31) 0 (by decide)
  rw [Int.shiftRight_eq_div_pow] at e1
  have e2 : (iI z).toInt = if 2 * (iI z).toBitVec.toNat < 2 ^ 32 then ((iI z).toBitVec.toNat : Int) else ((iI z).toBitVec.toNat : Int) - (2 ^ 32 : Nat) := BitVec.toInt_eq_toNat_cond _
  have r := by4_rng z 0
  have e3 : by4 z 0 = (((iI z).toBitVec.toNat / 2 ^ 0 % 256 : Nat) : Int) := rfl
  generalize (iI z).toBitVec.toNat = Z at e2 e3
  have hR : R32 (sb (by4 z 0)) := by unfold sb R32; omega
  rw [Int8.toInt_toInt32, Int32.toInt_toInt8, e1, iI_toInt hR, Int.bmod_def]
  unfold sb
  omega
def wTp (q : Nat → Nat) (C : Nat → ClassId) (len : Int) (bs : Int → Int) : va_W := [(q 1, .inr (4, [.ref (q 2), .int (iI len)])), (q 2, .inl (C 0, 640, .inl (aI (sbf bs))))]
def TpW (q : Nat → Nat) (C : Nat → ClassId) (w : va_W) (len : Int) (bs : Int → Int) : Prop := (∃ k : Nat, w[k]? = some (q 1, .inr (4, [.ref (q 2), .int (iI len)]))) ∧ (∃ k : Nat, w[k]? = some (q 2, .inl (C 0, 640, .inl (aI (sbf bs)))))
def bAt (len : Int) (bs : Int → Int) (i : Int) : Int := if 0 ≤ i ∧ i < len then bs i else -1
set_option maxHeartbeats 4000000 in
set_option maxRecDepth 100000 in
theorem c_X4_hasRoomForFeed {l : Launch} {D : va_G} {C : Nat → ClassId} {q : Nat → Nat} {w : va_W} {len : Int} {bs : Int → Int} (hk8 : TpW q C w len bs) (hn : 0 ≤ len ∧ len ≤ 640)  : CR l yX4_hasRoomForFeed wsX4_hasRoomForFeed 0 0 D C [.ref (q 1)] (w) (.int (iI (bI (len + 20 ≤ 640)))) := by
  obtain ⟨⟨k1, h1⟩, ⟨k2, h2⟩⟩ := id hk8
  refine CRZ_of (cc := cX4_hasRoomForFeed) (maxL := 1) (by decide) rfl (Nat.le_of_ble_eq_true rfl) (bI_01 _) ?_
  intro p e s m below meth c Q ls hx hb hml hown hts hK hNW hl hP hret
  have hl : lv_has ls 1 [(0, .ref (q 1))] := hl
  refine lv_aload_n hx hb dX4_hasRoomForFeed_0 rfl (lv_at hl 0 rfl) ?_
  refine va_get (D := D) (ci := 4) (v := .int (iI (len))) (C := RX4) (T := TX4) (N := 2) hx hb hts (by decide +kernel) hown hK hP k1 h1 rfl 1 (by decide) (hts (.fieldLink RX4 15 "BreakSetter$Tape" "length" "I") (by decide +kernel)) (fun _ h9 => h9) rfl dX4_hasRoomForFeed_1 ?_
  refine lv_bipush (v := iI (20)) hx hb dX4_hasRoomForFeed_4 (by decide) ?_
  refine j_iadd hx hb dX4_hasRoomForFeed_6 ?_
  refine lv_sipush (v := iI (640)) hx hb dX4_hasRoomForFeed_7 (by decide) ?_
  refine j_icmp_gt (tgt := 17) hx hb dX4_hasRoomForFeed_10 rfl ⟨by omega, by omega⟩ ⟨by decide, by decide⟩ (fun c10 => ?_) (fun c10 => ?_)
  · skip
    refine lv_iconst (v := iI (0)) hx hb dX4_hasRoomForFeed_17 rfl ?_
    exact hret ls 18 _ dX4_hasRoomForFeed_18 (by rw [bI_f (by omega)])
  · skip
    refine lv_iconst (v := iI (1)) hx hb dX4_hasRoomForFeed_13 rfl ?_
    refine lv_goto (tgt := 18) hx hb dX4_hasRoomForFeed_14 rfl ?_
    exact hret ls 18 _ dX4_hasRoomForFeed_18 (by rw [bI_t (by omega)])

set_option maxHeartbeats 4000000 in
set_option maxRecDepth 100000 in
theorem c_X4_byteAt {l : Launch} {D : va_G} {C : Nat → ClassId} {q : Nat → Nat} {w : va_W} {len : Int} {bs : Int → Int} (hk8 : TpW q C w len bs) (hn : 0 ≤ len ∧ len ≤ 640) (hbs : ∀ k : Int, 0 ≤ k → k < 640 → 0 ≤ bs k ∧ bs k < 256) {at0 : Int} (ha : R32 at0) : CR l yX4_byteAt wsX4_byteAt 0 0 D C [.ref (q 1), .int (iI (at0))] (w) (.int (iI (bAt len bs at0))) := by
  obtain ⟨⟨k1, h1⟩, ⟨k2, h2⟩⟩ := id hk8
  refine CR_of (cc := cX4_byteAt) (maxL := 2) (by decide) rfl (Nat.le_of_ble_eq_true rfl) ?_
  intro p e s m below meth c Q ls hx hb hml hown hts hK hNW hl hP hret
  have hl : lv_has ls 2 [(0, .ref (q 1)), (1, .int (iI (at0)))] := hl
  refine lv_iload_n hx hb dX4_byteAt_0 rfl (lv_at hl 1 rfl) ?_
  refine j_if_lt (tgt := 25) hx hb dX4_byteAt_1 rfl ha (fun c1 => ?_) (fun c1 => ?_)
  · skip
    refine lv_iconst (v := iI (-1)) hx hb dX4_byteAt_25 rfl ?_
    exact hret ls 26 _ dX4_byteAt_26 (by unfold bAt; rw [if_neg (by omega)])
  · skip
    refine lv_iload_n hx hb dX4_byteAt_4 rfl (lv_at hl 1 rfl) ?_
    refine lv_aload_n hx hb dX4_byteAt_5 rfl (lv_at hl 0 rfl) ?_
    refine va_get (D := D) (ci := 4) (v := .int (iI (len))) (C := RX4) (T := TX4) (N := 2) hx hb hts (by decide +kernel) hown hK hP k1 h1 rfl 1 (by decide) (hts (.fieldLink RX4 15 "BreakSetter$Tape" "length" "I") (by decide +kernel)) (fun _ h9 => h9) rfl dX4_byteAt_6 ?_
    refine j_icmp_ge (tgt := 25) hx hb dX4_byteAt_9 rfl ha ⟨by omega, by omega⟩ (fun c9 => ?_) (fun c9 => ?_)
    · skip
      refine lv_iconst (v := iI (-1)) hx hb dX4_byteAt_25 rfl ?_
      exact hret ls 26 _ dX4_byteAt_26 (by unfold bAt; rw [if_neg (by omega)])
    · skip
      refine lv_aload_n hx hb dX4_byteAt_12 rfl (lv_at hl 0 rfl) ?_
      refine va_get (D := D) (ci := 4) (v := .ref (q 2)) (C := RX4) (T := TX4) (N := 2) hx hb hts (by decide +kernel) hown hK hP k1 h1 rfl 0 (by decide) (hts (.fieldLink RX4 11 "BreakSetter$Tape" "bytes" "[B") (by decide +kernel)) (fun _ h9 => h9) rfl dX4_byteAt_13 ?_
      refine lv_iload_n hx hb dX4_byteAt_16 rfl (lv_at hl 1 rfl) ?_
      refine j_bald hx hb hK hP k2 0 h2 rfl ⟨by omega, by omega⟩ (Nat.le_of_ble_eq_true rfl) dX4_byteAt_17 ?_
      refine lv_sipush (v := iI (255)) hx hb dX4_byteAt_18 (by decide) ?_
      refine lv_iand hx hb dX4_byteAt_21 ?_
      refine W_wen (y := iI (bs at0)) (sb_and (hbs at0 (by omega) (by omega))) ?_
      refine lv_goto (tgt := 26) hx hb dX4_byteAt_22 rfl ?_
      exact hret ls 26 _ dX4_byteAt_26 (by unfold bAt; rw [if_pos ⟨by omega, by omega⟩])

set_option maxHeartbeats 4000000 in
set_option maxRecDepth 100000 in
theorem c_X4_append {l : Launch} {D : va_G} {C : Nat → ClassId} {q : Nat → Nat} {len : Int} {bs : Int → Int} {zz : Int} (h0 : 0 ≤ len) (h1 : len + 4 ≤ 640) : CV (S := Unit) l yX4_append wsX4_append 0 0 D C [.ref (q 1), .int (iI (zz))] (wTp q C len bs) (fun _ => wTp q C (len + 4) (lay4 bs len zz)) (fun _ => True) := by
  refine CV_of (cc := cX4_append) (maxL := 3) (by decide) rfl (Nat.le_of_ble_eq_true rfl) ?_
  intro p e s m below meth c A Q ls hx hb hml hown hts hK hNW hA hl hP hD hS hret
  have hl : lv_has ls 3 [(0, .ref (q 1)), (1, .int (iI (zz)))] := hl
  refine lv_bipush (v := iI (24)) hx hb dX4_append_0 (by decide) ?_
  refine lv_istore_n (lv' := [(2, .int (iI (24))), (0, .ref (q 1)), (1, .int (iI (zz)))]) hx hb dX4_append_2 rfl hl (by decide) rfl (fun ls hl => ?_)
  refine lv_iload_n hx hb dX4_append_3 rfl (lv_at hl 0 rfl) ?_
  refine j_if_lt (tgt := 46) hx hb dX4_append_4 rfl ⟨by decide, by decide⟩ (fun c4 => ?_) (fun c4 => ?_)
  · exact absurd c4 (by decide)
  · skip
    refine lv_aload_n hx hb dX4_append_7 rfl (lv_at hl 1 rfl) ?_
    refine va_get (D := D) (ci := 4) (v := .int (iI (len))) (C := RX4) (T := TX4) (N := 2) hx hb hts (by decide +kernel) hown hK hP 0 rfl rfl 1 (by decide) (hts (.fieldLink RX4 15 "BreakSetter$Tape" "length" "I") (by decide +kernel)) (fun _ h9 => h9) rfl dX4_append_8 ?_
    refine lv_sipush (v := iI (640)) hx hb dX4_append_11 (by decide) ?_
    refine j_icmp_ge (tgt := 46) hx hb dX4_append_14 rfl ⟨by omega, by omega⟩ ⟨by decide, by decide⟩ (fun c14 => ?_) (fun c14 => ?_)
    · skip
      exact absurd c14 (by omega)
    · skip
      refine lv_aload_n hx hb dX4_append_17 rfl (lv_at hl 1 rfl) ?_
      refine va_get (D := D) (ci := 4) (v := .ref (q 2)) (C := RX4) (T := TX4) (N := 2) hx hb hts (by decide +kernel) hown hK hP 0 rfl rfl 0 (by decide) (hts (.fieldLink RX4 11 "BreakSetter$Tape" "bytes" "[B") (by decide +kernel)) (fun _ h9 => h9) rfl dX4_append_18 ?_
      refine lv_aload_n hx hb dX4_append_21 rfl (lv_at hl 1 rfl) ?_
      refine va_get (D := D) (ci := 4) (v := .int (iI (len))) (C := RX4) (T := TX4) (N := 2) hx hb hts (by decide +kernel) hown hK hP 0 rfl rfl 1 (by decide) (hts (.fieldLink RX4 15 "BreakSetter$Tape" "length" "I") (by decide +kernel)) (fun _ h9 => h9) rfl dX4_append_22 ?_
      refine lv_iload_n hx hb dX4_append_25 rfl (lv_at hl 2 rfl) ?_
      refine lv_iload_n hx hb dX4_append_26 rfl (lv_at hl 0 rfl) ?_
      refine lv_ishr hx hb dX4_append_27 ?_
      refine lv_i2b hx hb dX4_append_28 rfl ?_
      refine j_bast hx hb hK hP hD hS 1 0 rfl rfl (z := len) (v := sb (by4 zz 24)) ⟨by omega, by omega⟩ (Nat.le_of_ble_eq_true rfl) (by rw [pk_vb]; exact by4_s24 zz) dX4_append_29 (fun H locs hP hD hS => ?_)
      rw [sbf_up] at hP hD
      have hP : va_P D vwCl (wTp q C len (up bs len (by4 zz 24))) H := hP
      have hD : va_D A (wTp q C len (up bs len (by4 zz 24))) := hD
      refine lv_aload_n hx hb dX4_append_30 rfl (lv_at hl 1 rfl) ?_
      refine lv_dup hx hb dX4_append_31 rfl ?_
      refine va_get (D := D) (ci := 4) (v := .int (iI (len))) (C := RX4) (T := TX4) (N := 2) hx hb hts (by decide +kernel) hown hK hP 0 rfl rfl 1 (by decide) (hts (.fieldLink RX4 15 "BreakSetter$Tape" "length" "I") (by decide +kernel)) (fun _ h9 => h9) rfl dX4_append_32 ?_
      refine lv_iconst (v := iI (1)) hx hb dX4_append_35 rfl ?_
      refine j_iadd hx hb dX4_append_36 ?_
      refine va_put (D := D) (ci := 4) (v := .int (iI (len + 1))) (ty := .int) (C := RX4) (T := TX4) (N := 2) hx hb hts (by decide +kernel) tyX4 tyX4_ok nmX4 hown hK hP hD hS 0 rfl rfl 1 (by decide) (hts (.fieldLink RX4 15 "BreakSetter$Tape" "length" "I") (by decide +kernel)) (fun _ h9 => h9) rfl (by decide +kernel) rfl rfl (Nat.le_of_ble_eq_true rfl) dX4_append_37 (fun H locs hP hD hS => ?_)
      have hP : va_P D vwCl (wTp q C (len + 1) (up bs len (by4 zz 24))) H := hP
      have hD : va_D A (wTp q C (len + 1) (up bs len (by4 zz 24))) := hD
      refine j_iinc (k := 0) (lv' := [(2, .int (iI (16))), (0, .ref (q 1)), (1, .int (iI (zz)))]) hx hb dX4_append_40 hl rfl (by decide) rfl (fun ls hl => ?_)
      refine lv_goto (tgt := 3) hx hb dX4_append_43 rfl ?_
      refine lv_iload_n hx hb dX4_append_3 rfl (lv_at hl 0 rfl) ?_
      refine j_if_lt (tgt := 46) hx hb dX4_append_4 rfl ⟨by decide, by decide⟩ (fun c4 => ?_) (fun c4 => ?_)
      · exact absurd c4 (by decide)
      · skip
        refine lv_aload_n hx hb dX4_append_7 rfl (lv_at hl 1 rfl) ?_
        refine va_get (D := D) (ci := 4) (v := .int (iI (len + 1))) (C := RX4) (T := TX4) (N := 2) hx hb hts (by decide +kernel) hown hK hP 0 rfl rfl 1 (by decide) (hts (.fieldLink RX4 15 "BreakSetter$Tape" "length" "I") (by decide +kernel)) (fun _ h9 => h9) rfl dX4_append_8 ?_
        refine lv_sipush (v := iI (640)) hx hb dX4_append_11 (by decide) ?_
        refine j_icmp_ge (tgt := 46) hx hb dX4_append_14 rfl ⟨by omega, by omega⟩ ⟨by decide, by decide⟩ (fun c14 => ?_) (fun c14 => ?_)
        · skip
          exact absurd c14 (by omega)
        · skip
          refine lv_aload_n hx hb dX4_append_17 rfl (lv_at hl 1 rfl) ?_
          refine va_get (D := D) (ci := 4) (v := .ref (q 2)) (C := RX4) (T := TX4) (N := 2) hx hb hts (by decide +kernel) hown hK hP 0 rfl rfl 0 (by decide) (hts (.fieldLink RX4 11 "BreakSetter$Tape" "bytes" "[B") (by decide +kernel)) (fun _ h9 => h9) rfl dX4_append_18 ?_
          refine lv_aload_n hx hb dX4_append_21 rfl (lv_at hl 1 rfl) ?_
          refine va_get (D := D) (ci := 4) (v := .int (iI (len + 1))) (C := RX4) (T := TX4) (N := 2) hx hb hts (by decide +kernel) hown hK hP 0 rfl rfl 1 (by decide) (hts (.fieldLink RX4 15 "BreakSetter$Tape" "length" "I") (by decide +kernel)) (fun _ h9 => h9) rfl dX4_append_22 ?_
          refine lv_iload_n hx hb dX4_append_25 rfl (lv_at hl 2 rfl) ?_
          refine lv_iload_n hx hb dX4_append_26 rfl (lv_at hl 0 rfl) ?_
          refine lv_ishr hx hb dX4_append_27 ?_
          refine lv_i2b hx hb dX4_append_28 rfl ?_
          refine j_bast hx hb hK hP hD hS 1 0 rfl rfl (z := len + 1) (v := sb (by4 zz 16)) ⟨by omega, by omega⟩ (Nat.le_of_ble_eq_true rfl) (by rw [pk_vb]; exact by4_s16 zz) dX4_append_29 (fun H locs hP hD hS => ?_)
          rw [sbf_up] at hP hD
          have hP : va_P D vwCl (wTp q C (len + 1) (up (up bs len (by4 zz 24)) (len + 1) (by4 zz 16))) H := hP
          have hD : va_D A (wTp q C (len + 1) (up (up bs len (by4 zz 24)) (len + 1) (by4 zz 16))) := hD
          refine lv_aload_n hx hb dX4_append_30 rfl (lv_at hl 1 rfl) ?_
          refine lv_dup hx hb dX4_append_31 rfl ?_
          refine va_get (D := D) (ci := 4) (v := .int (iI (len + 1))) (C := RX4) (T := TX4) (N := 2) hx hb hts (by decide +kernel) hown hK hP 0 rfl rfl 1 (by decide) (hts (.fieldLink RX4 15 "BreakSetter$Tape" "length" "I") (by decide +kernel)) (fun _ h9 => h9) rfl dX4_append_32 ?_
          refine lv_iconst (v := iI (1)) hx hb dX4_append_35 rfl ?_
          refine j_iadd hx hb dX4_append_36 ?_
          refine va_put (D := D) (ci := 4) (v := .int (iI ((len + 1) + 1))) (ty := .int) (C := RX4) (T := TX4) (N := 2) hx hb hts (by decide +kernel) tyX4 tyX4_ok nmX4 hown hK hP hD hS 0 rfl rfl 1 (by decide) (hts (.fieldLink RX4 15 "BreakSetter$Tape" "length" "I") (by decide +kernel)) (fun _ h9 => h9) rfl (by decide +kernel) rfl rfl (Nat.le_of_ble_eq_true rfl) dX4_append_37 (fun H locs hP hD hS => ?_)
          have hP : va_P D vwCl (wTp q C ((len + 1) + 1) (up (up bs len (by4 zz 24)) (len + 1) (by4 zz 16))) H := hP
          have hD : va_D A (wTp q C ((len + 1) + 1) (up (up bs len (by4 zz 24)) (len + 1) (by4 zz 16))) := hD
          refine j_iinc (k := 0) (lv' := [(2, .int (iI (8))), (0, .ref (q 1)), (1, .int (iI (zz)))]) hx hb dX4_append_40 hl rfl (by decide) rfl (fun ls hl => ?_)
          refine lv_goto (tgt := 3) hx hb dX4_append_43 rfl ?_
          refine lv_iload_n hx hb dX4_append_3 rfl (lv_at hl 0 rfl) ?_
          refine j_if_lt (tgt := 46) hx hb dX4_append_4 rfl ⟨by decide, by decide⟩ (fun c4 => ?_) (fun c4 => ?_)
          · exact absurd c4 (by decide)
          · skip
            refine lv_aload_n hx hb dX4_append_7 rfl (lv_at hl 1 rfl) ?_
            refine va_get (D := D) (ci := 4) (v := .int (iI ((len + 1) + 1))) (C := RX4) (T := TX4) (N := 2) hx hb hts (by decide +kernel) hown hK hP 0 rfl rfl 1 (by decide) (hts (.fieldLink RX4 15 "BreakSetter$Tape" "length" "I") (by decide +kernel)) (fun _ h9 => h9) rfl dX4_append_8 ?_
            refine lv_sipush (v := iI (640)) hx hb dX4_append_11 (by decide) ?_
            refine j_icmp_ge (tgt := 46) hx hb dX4_append_14 rfl ⟨by omega, by omega⟩ ⟨by decide, by decide⟩ (fun c14 => ?_) (fun c14 => ?_)
            · skip
              exact absurd c14 (by omega)
            · skip
              refine lv_aload_n hx hb dX4_append_17 rfl (lv_at hl 1 rfl) ?_
              refine va_get (D := D) (ci := 4) (v := .ref (q 2)) (C := RX4) (T := TX4) (N := 2) hx hb hts (by decide +kernel) hown hK hP 0 rfl rfl 0 (by decide) (hts (.fieldLink RX4 11 "BreakSetter$Tape" "bytes" "[B") (by decide +kernel)) (fun _ h9 => h9) rfl dX4_append_18 ?_
              refine lv_aload_n hx hb dX4_append_21 rfl (lv_at hl 1 rfl) ?_
              refine va_get (D := D) (ci := 4) (v := .int (iI ((len + 1) + 1))) (C := RX4) (T := TX4) (N := 2) hx hb hts (by decide +kernel) hown hK hP 0 rfl rfl 1 (by decide) (hts (.fieldLink RX4 15 "BreakSetter$Tape" "length" "I") (by decide +kernel)) (fun _ h9 => h9) rfl dX4_append_22 ?_
              refine lv_iload_n hx hb dX4_append_25 rfl (lv_at hl 2 rfl) ?_
              refine lv_iload_n hx hb dX4_append_26 rfl (lv_at hl 0 rfl) ?_
              refine lv_ishr hx hb dX4_append_27 ?_
              refine lv_i2b hx hb dX4_append_28 rfl ?_
              refine j_bast hx hb hK hP hD hS 1 0 rfl rfl (z := (len + 1) + 1) (v := sb (by4 zz 8)) ⟨by omega, by omega⟩ (Nat.le_of_ble_eq_true rfl) (by rw [pk_vb]; exact by4_s8 zz) dX4_append_29 (fun H locs hP hD hS => ?_)
              rw [sbf_up] at hP hD
              have hP : va_P D vwCl (wTp q C ((len + 1) + 1) (up (up (up bs len (by4 zz 24)) (len + 1) (by4 zz 16)) ((len + 1) + 1) (by4 zz 8))) H := hP
              have hD : va_D A (wTp q C ((len + 1) + 1) (up (up (up bs len (by4 zz 24)) (len + 1) (by4 zz 16)) ((len + 1) + 1) (by4 zz 8))) := hD
              refine lv_aload_n hx hb dX4_append_30 rfl (lv_at hl 1 rfl) ?_
              refine lv_dup hx hb dX4_append_31 rfl ?_
              refine va_get (D := D) (ci := 4) (v := .int (iI ((len + 1) + 1))) (C := RX4) (T := TX4) (N := 2) hx hb hts (by decide +kernel) hown hK hP 0 rfl rfl 1 (by decide) (hts (.fieldLink RX4 15 "BreakSetter$Tape" "length" "I") (by decide +kernel)) (fun _ h9 => h9) rfl dX4_append_32 ?_
              refine lv_iconst (v := iI (1)) hx hb dX4_append_35 rfl ?_
              refine j_iadd hx hb dX4_append_36 ?_
              refine va_put (D := D) (ci := 4) (v := .int (iI (((len + 1) + 1) + 1))) (ty := .int) (C := RX4) (T := TX4) (N := 2) hx hb hts (by decide +kernel) tyX4 tyX4_ok nmX4 hown hK hP hD hS 0 rfl rfl 1 (by decide) (hts (.fieldLink RX4 15 "BreakSetter$Tape" "length" "I") (by decide +kernel)) (fun _ h9 => h9) rfl (by decide +kernel) rfl rfl (Nat.le_of_ble_eq_true rfl) dX4_append_37 (fun H locs hP hD hS => ?_)
              have hP : va_P D vwCl (wTp q C (((len + 1) + 1) + 1) (up (up (up bs len (by4 zz 24)) (len + 1) (by4 zz 16)) ((len + 1) + 1) (by4 zz 8))) H := hP
              have hD : va_D A (wTp q C (((len + 1) + 1) + 1) (up (up (up bs len (by4 zz 24)) (len + 1) (by4 zz 16)) ((len + 1) + 1) (by4 zz 8))) := hD
              refine j_iinc (k := 0) (lv' := [(2, .int (iI (0))), (0, .ref (q 1)), (1, .int (iI (zz)))]) hx hb dX4_append_40 hl rfl (by decide) rfl (fun ls hl => ?_)
              refine lv_goto (tgt := 3) hx hb dX4_append_43 rfl ?_
              refine lv_iload_n hx hb dX4_append_3 rfl (lv_at hl 0 rfl) ?_
              refine j_if_lt (tgt := 46) hx hb dX4_append_4 rfl ⟨by decide, by decide⟩ (fun c4 => ?_) (fun c4 => ?_)
              · exact absurd c4 (by decide)
              · skip
                refine lv_aload_n hx hb dX4_append_7 rfl (lv_at hl 1 rfl) ?_
                refine va_get (D := D) (ci := 4) (v := .int (iI (((len + 1) + 1) + 1))) (C := RX4) (T := TX4) (N := 2) hx hb hts (by decide +kernel) hown hK hP 0 rfl rfl 1 (by decide) (hts (.fieldLink RX4 15 "BreakSetter$Tape" "length" "I") (by decide +kernel)) (fun _ h9 => h9) rfl dX4_append_8 ?_
                refine lv_sipush (v := iI (640)) hx hb dX4_append_11 (by decide) ?_
                refine j_icmp_ge (tgt := 46) hx hb dX4_append_14 rfl ⟨by omega, by omega⟩ ⟨by decide, by decide⟩ (fun c14 => ?_) (fun c14 => ?_)
                · skip
                  exact absurd c14 (by omega)
                · skip
                  refine lv_aload_n hx hb dX4_append_17 rfl (lv_at hl 1 rfl) ?_
                  refine va_get (D := D) (ci := 4) (v := .ref (q 2)) (C := RX4) (T := TX4) (N := 2) hx hb hts (by decide +kernel) hown hK hP 0 rfl rfl 0 (by decide) (hts (.fieldLink RX4 11 "BreakSetter$Tape" "bytes" "[B") (by decide +kernel)) (fun _ h9 => h9) rfl dX4_append_18 ?_
                  refine lv_aload_n hx hb dX4_append_21 rfl (lv_at hl 1 rfl) ?_
                  refine va_get (D := D) (ci := 4) (v := .int (iI (((len + 1) + 1) + 1))) (C := RX4) (T := TX4) (N := 2) hx hb hts (by decide +kernel) hown hK hP 0 rfl rfl 1 (by decide) (hts (.fieldLink RX4 15 "BreakSetter$Tape" "length" "I") (by decide +kernel)) (fun _ h9 => h9) rfl dX4_append_22 ?_
                  refine lv_iload_n hx hb dX4_append_25 rfl (lv_at hl 2 rfl) ?_
                  refine lv_iload_n hx hb dX4_append_26 rfl (lv_at hl 0 rfl) ?_
                  refine lv_ishr hx hb dX4_append_27 ?_
                  refine lv_i2b hx hb dX4_append_28 rfl ?_
                  refine j_bast hx hb hK hP hD hS 1 0 rfl rfl (z := ((len + 1) + 1) + 1) (v := sb (by4 zz 0)) ⟨by omega, by omega⟩ (Nat.le_of_ble_eq_true rfl) (by rw [pk_vb]; exact by4_s0 zz) dX4_append_29 (fun H locs hP hD hS => ?_)
                  rw [sbf_up] at hP hD
                  have hP : va_P D vwCl (wTp q C (((len + 1) + 1) + 1) (up (up (up (up bs len (by4 zz 24)) (len + 1) (by4 zz 16)) ((len + 1) + 1) (by4 zz 8)) (((len + 1) + 1) + 1) (by4 zz 0))) H := hP
                  have hD : va_D A (wTp q C (((len + 1) + 1) + 1) (up (up (up (up bs len (by4 zz 24)) (len + 1) (by4 zz 16)) ((len + 1) + 1) (by4 zz 8)) (((len + 1) + 1) + 1) (by4 zz 0))) := hD
                  refine lv_aload_n hx hb dX4_append_30 rfl (lv_at hl 1 rfl) ?_
                  refine lv_dup hx hb dX4_append_31 rfl ?_
                  refine va_get (D := D) (ci := 4) (v := .int (iI (((len + 1) + 1) + 1))) (C := RX4) (T := TX4) (N := 2) hx hb hts (by decide +kernel) hown hK hP 0 rfl rfl 1 (by decide) (hts (.fieldLink RX4 15 "BreakSetter$Tape" "length" "I") (by decide +kernel)) (fun _ h9 => h9) rfl dX4_append_32 ?_
                  refine lv_iconst (v := iI (1)) hx hb dX4_append_35 rfl ?_
                  refine j_iadd hx hb dX4_append_36 ?_
                  refine va_put (D := D) (ci := 4) (v := .int (iI ((((len + 1) + 1) + 1) + 1))) (ty := .int) (C := RX4) (T := TX4) (N := 2) hx hb hts (by decide +kernel) tyX4 tyX4_ok nmX4 hown hK hP hD hS 0 rfl rfl 1 (by decide) (hts (.fieldLink RX4 15 "BreakSetter$Tape" "length" "I") (by decide +kernel)) (fun _ h9 => h9) rfl (by decide +kernel) rfl rfl (Nat.le_of_ble_eq_true rfl) dX4_append_37 (fun H locs hP hD hS => ?_)
                  have hP : va_P D vwCl (wTp q C ((((len + 1) + 1) + 1) + 1) (up (up (up (up bs len (by4 zz 24)) (len + 1) (by4 zz 16)) ((len + 1) + 1) (by4 zz 8)) (((len + 1) + 1) + 1) (by4 zz 0))) H := hP
                  have hD : va_D A (wTp q C ((((len + 1) + 1) + 1) + 1) (up (up (up (up bs len (by4 zz 24)) (len + 1) (by4 zz 16)) ((len + 1) + 1) (by4 zz 8)) (((len + 1) + 1) + 1) (by4 zz 0))) := hD
                  refine j_iinc (k := 0) (lv' := [(2, .int (iI (-8))), (0, .ref (q 1)), (1, .int (iI (zz)))]) hx hb dX4_append_40 hl rfl (by decide) rfl (fun ls hl => ?_)
                  refine lv_goto (tgt := 3) hx hb dX4_append_43 rfl ?_
                  refine lv_iload_n hx hb dX4_append_3 rfl (lv_at hl 0 rfl) ?_
                  refine j_if_lt (tgt := 46) hx hb dX4_append_4 rfl ⟨by decide, by decide⟩ (fun c4 => ?_) (fun c4 => ?_)
                  · skip
                    rw [show len + 1 + 1 + 1 + 1 = len + 4 by omega] at hP hD
                    exact hret H locs ls 46 () dX4_append_46 trivial hP hD hS
                  · exact absurd c4 (by decide)

set_option maxHeartbeats 4000000 in
set_option maxRecDepth 100000 in
theorem c_X4_cutTo {l : Launch} {D : va_G} {C : Nat → ClassId} {q : Nat → Nat} {len : Int} {bs : Int → Int} (hn : 0 ≤ len ∧ len ≤ 640) {zz : Int} (hz : R32 zz) : CI (S := Int) l yX4_cutTo wsX4_cutTo 0 0 D C [.ref (q 1), .int (iI (zz))] (wTp q C len bs) (fun u => wTp q C u bs) (fun r u => r = iI (bI (0 ≤ zz ∧ zz ≤ len)) ∧ u = if 0 ≤ zz ∧ zz ≤ len then zz else len) := by
  refine CZ_of (cc := cX4_cutTo) (maxL := 2) (by decide) rfl (Nat.le_of_ble_eq_true rfl) ?_
  intro p e s m below meth c A Q ls hx hb hml hown hts hK hNW hA hl hP hD hS hret
  have hl : lv_has ls 2 [(0, .ref (q 1)), (1, .int (iI (zz)))] := hl
  refine lv_iload_n hx hb dX4_cutTo_0 rfl (lv_at hl 1 rfl) ?_
  refine j_if_lt (tgt := 12) hx hb dX4_cutTo_1 rfl hz (fun c1 => ?_) (fun c1 => ?_)
  · skip
    refine lv_iconst (v := iI (0)) hx hb dX4_cutTo_12 rfl ?_
    exact hret s.heap [] ls 13 _ len dX4_cutTo_13 (Or.inl rfl) ⟨by rw [bI_f (by omega)], by rw [if_neg (by omega)]⟩ hP hD hS
  · skip
    refine lv_iload_n hx hb dX4_cutTo_4 rfl (lv_at hl 1 rfl) ?_
    refine lv_aload_n hx hb dX4_cutTo_5 rfl (lv_at hl 0 rfl) ?_
    refine va_get (D := D) (ci := 4) (v := .int (iI (len))) (C := RX4) (T := TX4) (N := 2) hx hb hts (by decide +kernel) hown hK hP 0 rfl rfl 1 (by decide) (hts (.fieldLink RX4 15 "BreakSetter$Tape" "length" "I") (by decide +kernel)) (fun _ h9 => h9) rfl dX4_cutTo_6 ?_
    refine j_icmp_le (tgt := 14) hx hb dX4_cutTo_9 rfl hz ⟨by omega, by omega⟩ (fun c9 => ?_) (fun c9 => ?_)
    · skip
      refine lv_aload_n hx hb dX4_cutTo_14 rfl (lv_at hl 0 rfl) ?_
      refine lv_iload_n hx hb dX4_cutTo_15 rfl (lv_at hl 1 rfl) ?_
      refine va_put (D := D) (ci := 4) (v := .int (iI (zz))) (ty := .int) (C := RX4) (T := TX4) (N := 2) hx hb hts (by decide +kernel) tyX4 tyX4_ok nmX4 hown hK hP hD hS 0 rfl rfl 1 (by decide) (hts (.fieldLink RX4 15 "BreakSetter$Tape" "length" "I") (by decide +kernel)) (fun _ h9 => h9) rfl (by decide +kernel) rfl rfl (Nat.le_of_ble_eq_true rfl) dX4_cutTo_16 (fun H locs hP hD hS => ?_)
      have hP : va_P D vwCl (wTp q C zz bs) H := hP
      have hD : va_D A (wTp q C zz bs) := hD
      refine lv_iconst (v := iI (1)) hx hb dX4_cutTo_19 rfl ?_
      exact hret H locs ls 20 _ zz dX4_cutTo_20 (Or.inr rfl) ⟨by rw [bI_t ⟨by omega, by omega⟩], by rw [if_pos ⟨by omega, by omega⟩]⟩ hP hD hS
    · skip
      refine lv_iconst (v := iI (0)) hx hb dX4_cutTo_12 rfl ?_
      exact hret s.heap [] ls 13 _ len dX4_cutTo_13 (Or.inl rfl) ⟨by rw [bI_f (by omega)], by rw [if_neg (by omega)]⟩ hP hD hS
