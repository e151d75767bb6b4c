/-- the reference's world -/
def wM (q : Nat → Nat) (C : Nat → ClassId) (th ta fa sm : Int) (tape now snaps : Int → Int) (wo : Int64) (sc : Nat → Int) (sa : Nat → Int → Int) : va_W := [(q 36, .inr (7, [.int (iI th), .ref (q 37), .int (iI ta), .int (iI (sc 3)), .int (iI (sc 4)), .int (iI (sc 5)), .int (iI (sc 6)), .int (iI (sc 7)), .int (iI fa), .int (iI (sc 9)), .long wo, .ref (q 38), .ref (q 39), .ref (q 40), .int (iI sm), .int (iI (sc 15)), .int (iI (sc 16)), .int (iI (sc 17)), .ref (q 41), .ref (q 42), .ref (q 43), .ref (q 44), .ref (q 45)])), (q 37, .inl (C 1, 640, .inl (aI tape))), (q 38, .inl (C 1, 308, .inl (aI now))), (q 39, .inl (C 1, 308, .inl (aI (sa 0)))), (q 40, .inl (C 1, 3080, .inl (aI snaps))), (q 41, .inl (C 1, 48, .inl (aI (sa 1)))), (q 42, .inl (C 1, 48, .inl (aI (sa 2)))), (q 43, .inl (C 1, 8, .inl (aI (sa 3)))), (q 44, .inl (C 2, 48, .inl (aI (sa 4)))), (q 45, .inl (C 1, 147, .inl (aI (sa 5))))]
theorem MN_wM {q : Nat → Nat} {C : Nat → ClassId} {th ta fa sm : Int} {tape now snaps : Int → Int} {wo : Int64} {sc : Nat → Int} {sa : Nat → Int → Int} : MN q C (wM q C th ta fa sm tape now snaps wo sc sa) now := ⟨0, 2, _, rfl, rfl, rfl⟩
set_option maxHeartbeats 4000000 in
set_option maxRecDepth 100000 in
theorem c_X7_lies {l : Launch} {D : va_G} {C : Nat → ClassId} {q : Nat → Nat} {th ta fa sm : Int} {tape now snaps : Int → Int} {wo : Int64} {sc : Nat → Int} {sa : Nat → Int → Int} {kk tt : Int} (h0 : 0 ≤ kk) (h1 : kk < 24) : CV (S := Unit) l yX7_lies wsX7_lies 0 0 D C [.ref (q 36), .int (iI (kk)), .int (iI (tt))] (wM q C th ta fa sm tape now snaps wo sc sa) (fun _ => wM q C th ta fa sm tape (lie now kk tt) snaps wo sc sa) (fun _ => True) := by
  refine CV_of (cc := cX7_lies) (maxL := 3) (by decide) rfl (Nat.le_of_ble_eq_true rfl) ?_
  intro p e s m below meth c A Q ls hx hb hml hown hts hK hNW hA hl hP hD hS hret
  have hl : lv_has ls 3 [(0, .ref (q 36)), (1, .int (iI (kk))), (2, .int (iI (tt)))] := hl
  refine lv_aload_n hx hb dX7_lies_0 rfl (lv_at hl 0 rfl) ?_
  refine va_get (D := D) (ci := 7) (v := .ref (q 38)) (C := RX7) (T := TX7) (N := 23) hx hb hts (by decide +kernel) hown hK hP 0 rfl rfl 11 (by decide) (hts (.fieldLink RX7 74 "BreakSetterModel" "now" "[I") (by decide +kernel)) (fun _ h9 => h9) rfl dX7_lies_1 ?_
  refine lv_sipush (v := iI (188)) hx hb dX7_lies_4 (by decide) ?_
  refine lv_iconst (v := iI (5)) hx hb dX7_lies_7 rfl ?_
  refine lv_iload_n hx hb dX7_lies_8 rfl (lv_at hl 1 rfl) ?_
  refine j_imul hx hb dX7_lies_9 ?_
  refine j_iadd hx hb dX7_lies_10 ?_
  refine lv_iconst (v := iI (4)) hx hb dX7_lies_11 rfl ?_
  refine j_iadd hx hb dX7_lies_12 ?_
  refine lv_iload_n hx hb dX7_lies_13 rfl (lv_at hl 2 rfl) ?_
  refine lv_iconst (v := iI (1)) hx hb dX7_lies_14 rfl ?_
  refine j_iadd hx hb dX7_lies_15 ?_
  refine j_iast hx hb hK hP hD hS 2 1 rfl rfl ⟨by omega, by omega⟩ (Nat.le_of_ble_eq_true rfl) dX7_lies_16 (fun H locs hP hD hS => ?_)
  have hP : va_P D vwCl (wM q C th ta fa sm tape (up now ((188 + (5 * kk)) + 4) (tt + 1)) snaps wo sc sa) H := hP
  have hD : va_D A (wM q C th ta fa sm tape (up now ((188 + (5 * kk)) + 4) (tt + 1)) snaps wo sc sa) := hD
  rw [show (188 : Int) + 5 * kk + 4 = 192 + 5 * kk by omega] at hP hD
  exact hret H locs ls 17 () dX7_lies_17 trivial hP hD hS

set_option maxHeartbeats 4000000 in
set_option maxRecDepth 100000 in
theorem c_X7_refuse {l : Launch} {D : va_G} {C : Nat → ClassId} {q : Nat → Nat} {th ta fa sm : Int} {tape now snaps : Int → Int} {wo : Int64} {sc : Nat → Int} {sa : Nat → Int → Int}  : CI (S := Unit) l yX7_refuse wsX7_refuse 0 0 D C [.ref (q 36)] (wM q C th ta fa sm tape now snaps wo sc sa) (fun _ => wM q C 1 ta fa sm tape now snaps wo sc sa) (fun r _ => r = iI (0)) := by
  refine CI_of (cc := cX7_refuse) (maxL := 1) (by decide) rfl (Nat.le_of_ble_eq_true rfl) ?_
  intro p e s m below meth c A Q ls hx hb hml hown hts hK hNW hA hl hP hD hS hret
  have hl : lv_has ls 1 [(0, .ref (q 36))] := hl
  refine lv_aload_n hx hb dX7_refuse_0 rfl (lv_at hl 0 rfl) ?_
  refine lv_iconst (v := iI (1)) hx hb dX7_refuse_1 rfl ?_
  refine va_put (D := D) (ci := 7) (v := .int (iI (1))) (ty := .int) (C := RX7) (T := TX7) (N := 23) hx hb hts (by decide +kernel) tyX7 tyX7_ok nmX7 hown hK hP hD hS 0 rfl rfl 0 (by decide) (hts (.fieldLink RX7 1 "BreakSetterModel" "thrown" "I") (by decide +kernel)) (fun _ h9 => h9) rfl (by decide +kernel) rfl rfl (Nat.le_of_ble_eq_true rfl) dX7_refuse_2 (fun H locs hP hD hS => ?_)
  have hP : va_P D vwCl (wM q C 1 ta fa sm tape now snaps wo sc sa) H := hP
  have hD : va_D A (wM q C 1 ta fa sm tape now snaps wo sc sa) := hD
  refine lv_iconst (v := iI (0)) hx hb dX7_refuse_5 rfl ?_
  exact hret H locs ls 6 _ () dX7_refuse_6 rfl hP hD hS

set_option maxHeartbeats 4000000 in
set_option maxRecDepth 100000 in
theorem c_X7_thrown {l : Launch} {D : va_G} {C : Nat → ClassId} {q : Nat → Nat} {th ta fa sm : Int} {tape now snaps : Int → Int} {wo : Int64} {sc : Nat → Int} {sa : Nat → Int → Int}  : CR l yX7_thrown wsX7_thrown 0 0 D C [.ref (q 36)] (wM q C th ta fa sm tape now snaps wo sc sa) (.int (iI (th))) := by
  refine CR_of (cc := cX7_thrown) (maxL := 1) (by decide) rfl (Nat.le_of_ble_eq_true rfl) ?_
  intro p e s m below meth c Q ls hx hb hml hown hts hK hNW hl hP hret
  have hl : lv_has ls 1 [(0, .ref (q 36))] := hl
  refine lv_aload_n hx hb dX7_thrown_0 rfl (lv_at hl 0 rfl) ?_
  refine va_get (D := D) (ci := 7) (v := .int (iI (th))) (C := RX7) (T := TX7) (N := 23) hx hb hts (by decide +kernel) hown hK hP 0 rfl rfl 0 (by decide) (hts (.fieldLink RX7 1 "BreakSetterModel" "thrown" "I") (by decide +kernel)) (fun _ h9 => h9) rfl dX7_thrown_1 ?_
  exact hret ls 4 _ dX7_thrown_4 rfl

set_option maxHeartbeats 4000000 in
set_option maxRecDepth 100000 in
theorem c_X7_scoreAt {l : Launch} {D : va_G} {C : Nat → ClassId} {q : Nat → Nat} {th ta fa sm : Int} {tape now snaps : Int → Int} {wo : Int64} {sc : Nat → Int} {sa : Nat → Int → Int} (hg : Wf now) {kk tt : Int} (hk : 0 ≤ kk ∧ kk < now 3) (ht : now (190 + 5 * kk) ≤ tt ∧ tt ≤ now (191 + 5 * kk)) : CI (S := Unit) l yX7_scoreAt wsX7_scoreAt 7 157 D C [.ref (q 36), .int (iI (kk)), .int (iI (tt))] (wM q C th ta fa sm tape now snaps wo sc sa) (fun _ => wM q C th ta fa sm tape now snaps wo sc sa) (fun r _ => r = iI (SF (lie now kk tt))) := by
  refine CI_of (cc := cX7_scoreAt) (maxL := 5) (by decide) rfl (Nat.le_of_ble_eq_true rfl) ?_
  intro p e s m below meth c A Q ls hx hb hml hown hts hK hNW hA hl hP hD hS hret
  have hl : lv_has ls 5 [(0, .ref (q 36)), (1, .int (iI (kk))), (2, .int (iI (tt)))] := hl
  have n := Wf_n hg
  have b := Wf_p hg hk.1 hk.2
  have hg1 := Wf_lie hg hk.1 hk.2 (Or.inr ht)
  refine lv_aload_n hx hb dX7_scoreAt_0 rfl (lv_at hl 0 rfl) ?_
  refine lv_iload_n hx hb dX7_scoreAt_1 rfl (lv_at hl 1 rfl) ?_
  refine CR_callV (As := [.int (iI (kk))]) (rest := []) ⟨hx, hb, hml, hown, hts⟩ (c_X7_placeOf MN_wM (by omega) (by omega)) (cwV 1 hts gX7_scoreAt_X7_placeOf rfl rfl rfl (by decide +kernel) ⟨Nat.le_of_ble_eq_true rfl, Nat.le_of_ble_eq_true rfl⟩) (q0 := 0) rfl rfl rfl hK hNW hP rfl hl.1 rfl (Nat.le_of_ble_eq_true rfl) dX7_scoreAt_2 ⟨Nat.zero_le _, Nat.zero_le _⟩ ?_
  refine lv_istore_n (lv' := [(3, .int (iI (now (192 + 5 * kk) - 1))), (0, .ref (q 36)), (1, .int (iI (kk))), (2, .int (iI (tt)))]) hx hb dX7_scoreAt_5 rfl hl (by decide) rfl (fun ls hl => ?_)
  refine lv_aload_n hx hb dX7_scoreAt_6 rfl (lv_at hl 1 rfl) ?_
  refine lv_iload_n hx hb dX7_scoreAt_7 rfl (lv_at hl 2 rfl) ?_
  refine lv_iload_n hx hb dX7_scoreAt_8 rfl (lv_at hl 3 rfl) ?_
  refine CV_callV0 (As := [.int (iI (kk)), .int (iI (tt))]) (rest := []) ⟨hx, hb, hml, hown, hts⟩ (c_X7_lies (by omega) (by omega)) (cwV 2 hts gX7_scoreAt_X7_lies rfl rfl rfl (by decide +kernel) ⟨Nat.le_of_ble_eq_true rfl, Nat.le_of_ble_eq_true rfl⟩) (q0 := 0) rfl rfl rfl hK hNW hP hD hS hA rfl hl.1 rfl (Nat.le_of_ble_eq_true rfl) dX7_scoreAt_9 ⟨Nat.zero_le _, Nat.zero_le _⟩ (fun u H locs hw9 hP hD hS => ?_)
  have hP : va_P D vwCl (wM q C th ta fa sm tape (lie now kk tt) snaps wo sc sa) H := hP
  have hD : va_D A (wM q C th ta fa sm tape (lie now kk tt) snaps wo sc sa) := hD
  refine lv_aload_n hx hb dX7_scoreAt_12 rfl (lv_at hl 1 rfl) ?_
  refine CR_callV (As := []) (rest := []) ⟨hx, hb, hml, hown, hts⟩ (c_X7_shortfall MN_wM hg1 ) (cwV 0 hts gX7_scoreAt_X7_shortfall rfl rfl rfl (by decide +kernel) ⟨Nat.le_of_ble_eq_true rfl, Nat.le_of_ble_eq_true rfl⟩) (q0 := 0) rfl rfl rfl hK hNW hP rfl hl.1 rfl (Nat.le_of_ble_eq_true rfl) dX7_scoreAt_13 ⟨Nat.zero_le _, Nat.zero_le _⟩ ?_
  refine lv_istore (lv' := [(4, .int (iI (SF (lie now kk tt)))), (3, .int (iI (now (192 + 5 * kk) - 1))), (0, .ref (q 36)), (1, .int (iI (kk))), (2, .int (iI (tt)))]) hx hb dX7_scoreAt_16 hl (by decide) rfl (fun ls hl => ?_)
  refine lv_aload_n hx hb dX7_scoreAt_18 rfl (lv_at hl 2 rfl) ?_
  refine lv_iload_n hx hb dX7_scoreAt_19 rfl (lv_at hl 3 rfl) ?_
  refine lv_iload_n hx hb dX7_scoreAt_20 rfl (lv_at hl 1 rfl) ?_
  refine CV_callV0 (As := [.int (iI (kk)), .int (iI (now (192 + 5 * kk) - 1))]) (rest := []) ⟨hx, hb, hml, hown, hts⟩ (c_X7_lies (by omega) (by omega)) (cwV 2 hts gX7_scoreAt_X7_lies rfl rfl rfl (by decide +kernel) ⟨Nat.le_of_ble_eq_true rfl, Nat.le_of_ble_eq_true rfl⟩) (q0 := 0) rfl rfl rfl hK hNW hP hD hS hA rfl hl.1 rfl (Nat.le_of_ble_eq_true rfl) dX7_scoreAt_21 ⟨Nat.zero_le _, Nat.zero_le _⟩ (fun u H locs hw9 hP hD hS => ?_)
  have hP : va_P D vwCl (wM q C th ta fa sm tape (lie (lie now kk tt) kk (now (192 + 5 * kk) - 1)) snaps wo sc sa) H := hP
  have hD : va_D A (wM q C th ta fa sm tape (lie (lie now kk tt) kk (now (192 + 5 * kk) - 1)) snaps wo sc sa) := hD
  rw [lie_back] at hP hD
  refine lv_iload hx hb dX7_scoreAt_24 (lv_at hl 0 rfl) ?_
  exact hret H locs ls 26 _ () dX7_scoreAt_26 rfl hP hD hS

set_option maxHeartbeats 4000000 in
set_option maxRecDepth 100000 in
theorem c_X7_bestOf {l : Launch} {D : va_G} {C : Nat → ClassId} {q : Nat → Nat} {th ta fa sm : Int} {tape now snaps : Int → Int} {wo : Int64} {sc : Nat → Int} {sa : Nat → Int → Int} (hg : Wf now) {kk : Int} (hk : 0 ≤ kk ∧ kk < now 3) : CI (S := Unit) l yX7_bestOf wsX7_bestOf 8 181 D C [.ref (q 36), .int (iI (kk))] (wM q C th ta fa sm tape now snaps wo sc sa) (fun _ => wM q C th ta fa sm tape now snaps wo sc sa) (fun r _ => r = iI (bestOf now kk)) := by
  refine CI_of (cc := cX7_bestOf) (maxL := 6) (by decide) rfl (Nat.le_of_ble_eq_true rfl) ?_
  intro p e s m below meth c A Q ls hx hb hml hown hts hK hNW hA hl hP hD hS hret
  have hl : lv_has ls 6 [(0, .ref (q 36)), (1, .int (iI (kk)))] := hl
  have n := Wf_n hg
  have b := Wf_p hg hk.1 hk.2
  refine lv_bipush (v := iI (-2)) hx hb dX7_bestOf_0 (by decide) ?_
  refine lv_istore_n (lv' := [(2, .int (iI (-2))), (0, .ref (q 36)), (1, .int (iI (kk)))]) hx hb dX7_bestOf_2 rfl hl (by decide) rfl (fun ls hl => ?_)
  refine lv_iconst (v := iI (0)) hx hb dX7_bestOf_3 rfl ?_
  refine lv_istore_n (lv' := [(3, .int (iI (0))), (2, .int (iI (-2))), (0, .ref (q 36)), (1, .int (iI (kk)))]) hx hb dX7_bestOf_4 rfl hl (by decide) rfl (fun ls hl => ?_)
  refine lv_aload_n hx hb dX7_bestOf_5 rfl (lv_at hl 2 rfl) ?_
  refine lv_iload_n hx hb dX7_bestOf_6 rfl (lv_at hl 3 rfl) ?_
  refine lv_iconst (v := iI (2)) hx hb dX7_bestOf_7 rfl ?_
  refine CR_callV (As := [.int (iI (kk)), .int (iI (2))]) (rest := []) ⟨hx, hb, hml, hown, hts⟩ (c_X7_its MN_wM (by omega) (by omega)) (cwV 2 hts gX7_bestOf_X7_its rfl rfl rfl (by decide +kernel) ⟨Nat.le_of_ble_eq_true rfl, Nat.le_of_ble_eq_true rfl⟩) (q0 := 0) rfl rfl rfl hK hNW hP rfl hl.1 rfl (Nat.le_of_ble_eq_true rfl) dX7_bestOf_8 ⟨Nat.zero_le _, Nat.zero_le _⟩ ?_
  refine W_wen (y := iI (now (190 + 5 * kk))) (congrArg iI (congrArg now (by omega))) ?_
  refine lv_istore (lv' := [(4, .int (iI (now (190 + 5 * kk)))), (3, .int (iI (0))), (2, .int (iI (-2))), (0, .ref (q 36)), (1, .int (iI (kk)))]) hx hb dX7_bestOf_11 hl (by decide) rfl (fun ls hl => ?_)
  have L13 : ∀ (n : Nat) (t : Int) (bb : Int) (ll : Int) (ls : Array Slot) (H : Heap) (locs : List Loc), (now (190 + 5 * kk) ≤ t ∧ t ≤ now (191 + 5 * kk) + 1) → (bb = (bst now kk (t - now (190 + 5 * kk)).toNat).1) → (ll = (bst now kk (t - now (190 + 5 * kk)).toNat).2) → ((now (191 + 5 * kk) + 1 - t).toNat < n) → (lv_has ls 6 [(4, .int (iI (t))), (3, .int (iI (ll))), (2, .int (iI (bb))), (0, .ref (q 36)), (1, .int (iI (kk)))]) → (va_P D vwCl (wM q C th ta fa sm tape now snaps wo sc sa) H) → (va_D A (wM q C th ta fa sm tape now snaps wo sc sa)) → (va_S A s.heap H locs) → W p l e (rmN 8 181) s m ([.ref (q 36), .int (iI (kk))] : List Value).toArray below meth c H locs 0 0 Q (F0 m 13 ls []) := by
    intro n
    induction n with
    | zero => intro t bb ll ls H locs h1 h2 h3 hn; exact absurd hn (Nat.not_lt_zero _)
    | succ n ih13 =>
      intro t bb ll ls H locs h1 h2 h3 hn hl hP hD hS
      have hn13 := hn
      have rr := bst_rng hg hk.1 hk.2 (t - now (190 + 5 * kk)).toNat (by omega)
      rw [← h2, ← h3] at rr
      refine lv_iload hx hb dX7_bestOf_13 (lv_at hl 0 rfl) ?_
      refine lv_aload_n hx hb dX7_bestOf_15 rfl (lv_at hl 3 rfl) ?_
      refine lv_iload_n hx hb dX7_bestOf_16 rfl (lv_at hl 4 rfl) ?_
      refine lv_iconst (v := iI (3)) hx hb dX7_bestOf_17 rfl ?_
      refine CR_callV (As := [.int (iI (kk)), .int (iI (3))]) (rest := [.int (iI (t))]) ⟨hx, hb, hml, hown, hts⟩ (c_X7_its MN_wM (by omega) (by omega)) (cwV 2 hts gX7_bestOf_X7_its rfl rfl rfl (by decide +kernel) ⟨Nat.le_of_ble_eq_true rfl, Nat.le_of_ble_eq_true rfl⟩) (q0 := 0) rfl rfl rfl hK hNW hP rfl hl.1 rfl (Nat.le_of_ble_eq_true rfl) dX7_bestOf_18 ⟨Nat.zero_le _, Nat.zero_le _⟩ ?_
      refine W_wen (y := iI (now (191 + 5 * kk))) (congrArg iI (congrArg now (by omega))) ?_
      refine j_icmp_gt (tgt := 73) hx hb dX7_bestOf_21 rfl ⟨by omega, by omega⟩ ⟨by omega, by omega⟩ (fun c21 => ?_) (fun c21 => ?_)
      · skip
        refine lv_iload_n hx hb dX7_bestOf_73 rfl (lv_at hl 2 rfl) ?_
        exact hret H locs ls 74 _ () dX7_bestOf_74 (by rw [h2, show t = now (191 + 5 * kk) + 1 by omega]; rfl) hP hD hS
      · skip
        have yy := wy_rng now kk t
        refine lv_aload_n hx hb dX7_bestOf_24 rfl (lv_at hl 3 rfl) ?_
        refine lv_iload_n hx hb dX7_bestOf_25 rfl (lv_at hl 4 rfl) ?_
        refine lv_iload hx hb dX7_bestOf_26 (lv_at hl 0 rfl) ?_
        refine CR_callV (As := [.int (iI (kk)), .int (iI (t))]) (rest := []) ⟨hx, hb, hml, hown, hts⟩ (c_X7_whyNot MN_wM hg (by omega) (by omega)) (cwV 2 hts gX7_bestOf_X7_whyNot rfl rfl rfl (by decide +kernel) ⟨Nat.le_of_ble_eq_true rfl, Nat.le_of_ble_eq_true rfl⟩) (q0 := 0) rfl rfl rfl hK hNW hP rfl hl.1 rfl (Nat.le_of_ble_eq_true rfl) dX7_bestOf_28 ⟨Nat.zero_le _, Nat.zero_le _⟩ ?_
        refine j_if_le (tgt := 37) hx hb dX7_bestOf_31 rfl ⟨by omega, by omega⟩ (fun c31 => ?_) (fun c31 => ?_)
        · skip
          refine lv_aload_n hx hb dX7_bestOf_37 rfl (lv_at hl 3 rfl) ?_
          refine lv_iload_n hx hb dX7_bestOf_38 rfl (lv_at hl 4 rfl) ?_
          refine lv_iload hx hb dX7_bestOf_39 (lv_at hl 0 rfl) ?_
          refine CI_callV0 (As := [.int (iI (kk)), .int (iI (t))]) (rest := []) ⟨hx, hb, hml, hown, hts⟩ (c_X7_scoreAt hg (by omega) (by omega)) (cwV 2 hts gX7_bestOf_X7_scoreAt rfl rfl rfl (by decide +kernel) ⟨Nat.le_of_ble_eq_true rfl, Nat.le_of_ble_eq_true rfl⟩) (q0 := 0) rfl rfl rfl hK hNW hP hD hS hA rfl hl.1 rfl (Nat.le_of_ble_eq_true rfl) dX7_bestOf_41 ⟨Nat.zero_le _, Nat.zero_le _⟩ (fun r u H locs hw9 hP hD hS => ?_)
          have hw9 : r = iI (SF (lie now kk t)) := hw9
          subst hw9
          have hP : va_P D vwCl (wM q C th ta fa sm tape now snaps wo sc sa) H := hP
          have hD : va_D A (wM q C th ta fa sm tape now snaps wo sc sa) := hD
          refine lv_istore (lv' := [(5, .int (iI (SF (lie now kk t)))), (4, .int (iI (t))), (3, .int (iI (ll))), (2, .int (iI (bb))), (0, .ref (q 36)), (1, .int (iI (kk)))]) hx hb dX7_bestOf_44 hl (by decide) rfl (fun ls hl => ?_)
          have ss := SF_rng (Wf_lie hg hk.1 hk.2 (t := t) (Or.inr ⟨by omega, by omega⟩))
          refine lv_iload_n hx hb dX7_bestOf_46 rfl (lv_at hl 3 rfl) ?_
          refine lv_bipush (v := iI (-2)) hx hb dX7_bestOf_47 (by decide) ?_
          refine j_icmp_eq (tgt := 61) hx hb dX7_bestOf_49 rfl ⟨by omega, by omega⟩ ⟨by decide, by decide⟩ (fun c49 => ?_) (fun c49 => ?_)
          · skip
            refine lv_iload hx hb dX7_bestOf_61 (lv_at hl 0 rfl) ?_
            refine lv_istore_n (lv' := [(3, .int (iI (SF (lie now kk t)))), (5, .int (iI (SF (lie now kk t)))), (4, .int (iI (t))), (2, .int (iI (bb))), (0, .ref (q 36)), (1, .int (iI (kk)))]) hx hb dX7_bestOf_63 rfl hl (by decide) rfl (fun ls hl => ?_)
            refine lv_iload hx hb dX7_bestOf_64 (lv_at hl 2 rfl) ?_
            refine lv_istore_n (lv' := [(2, .int (iI (t))), (3, .int (iI (SF (lie now kk t)))), (5, .int (iI (SF (lie now kk t)))), (4, .int (iI (t))), (0, .ref (q 36)), (1, .int (iI (kk)))]) hx hb dX7_bestOf_66 rfl hl (by decide) rfl (fun ls hl => ?_)
            refine j_iinc (k := 3) (lv' := [(4, .int (iI (t + 1))), (2, .int (iI (t))), (3, .int (iI (SF (lie now kk t)))), (5, .int (iI (SF (lie now kk t)))), (0, .ref (q 36)), (1, .int (iI (kk)))]) hx hb dX7_bestOf_67 hl rfl (by decide) rfl (fun ls hl => ?_)
            refine lv_goto (tgt := 13) hx hb dX7_bestOf_70 rfl ?_
            exact ih13 (t + 1) t (SF (lie now kk t)) ls H locs (by omega) (by rw [bst_s h1.1]; unfold bstep; first | (rw [if_pos (by omega)]; exact h2) | (rw [if_neg (by omega), if_neg (by omega)]) | (rw [if_neg (by omega), if_pos (by omega)]; exact h2)) (by rw [bst_s h1.1]; unfold bstep; first | (rw [if_pos (by omega)]; exact h3) | (rw [if_neg (by omega), if_neg (by omega)]) | (rw [if_neg (by omega), if_pos (by omega)]; exact h3)) (by omega) (lv_sub hl [0, 2, 1, 4, 5] rfl) hP hD hS
          · skip
            refine lv_iload hx hb dX7_bestOf_52 (lv_at hl 0 rfl) ?_
            refine lv_iload_n hx hb dX7_bestOf_54 rfl (lv_at hl 2 rfl) ?_
            refine j_icmp_lt (tgt := 61) hx hb dX7_bestOf_55 rfl ⟨by omega, by omega⟩ ⟨by omega, by omega⟩ (fun c55 => ?_) (fun c55 => ?_)
            · skip
              refine lv_iload hx hb dX7_bestOf_61 (lv_at hl 0 rfl) ?_
              refine lv_istore_n (lv' := [(3, .int (iI (SF (lie now kk t)))), (5, .int (iI (SF (lie now kk t)))), (4, .int (iI (t))), (2, .int (iI (bb))), (0, .ref (q 36)), (1, .int (iI (kk)))]) hx hb dX7_bestOf_63 rfl hl (by decide) rfl (fun ls hl => ?_)
              refine lv_iload hx hb dX7_bestOf_64 (lv_at hl 2 rfl) ?_
              refine lv_istore_n (lv' := [(2, .int (iI (t))), (3, .int (iI (SF (lie now kk t)))), (5, .int (iI (SF (lie now kk t)))), (4, .int (iI (t))), (0, .ref (q 36)), (1, .int (iI (kk)))]) hx hb dX7_bestOf_66 rfl hl (by decide) rfl (fun ls hl => ?_)
              refine j_iinc (k := 3) (lv' := [(4, .int (iI (t + 1))), (2, .int (iI (t))), (3, .int (iI (SF (lie now kk t)))), (5, .int (iI (SF (lie now kk t)))), (0, .ref (q 36)), (1, .int (iI (kk)))]) hx hb dX7_bestOf_67 hl rfl (by decide) rfl (fun ls hl => ?_)
              refine lv_goto (tgt := 13) hx hb dX7_bestOf_70 rfl ?_
              exact ih13 (t + 1) t (SF (lie now kk t)) ls H locs (by omega) (by rw [bst_s h1.1]; unfold bstep; first | (rw [if_pos (by omega)]; exact h2) | (rw [if_neg (by omega), if_neg (by omega)]) | (rw [if_neg (by omega), if_pos (by omega)]; exact h2)) (by rw [bst_s h1.1]; unfold bstep; first | (rw [if_pos (by omega)]; exact h3) | (rw [if_neg (by omega), if_neg (by omega)]) | (rw [if_neg (by omega), if_pos (by omega)]; exact h3)) (by omega) (lv_sub hl [0, 2, 1, 4, 5] rfl) hP hD hS
            · skip
              refine lv_goto (tgt := 67) hx hb dX7_bestOf_58 rfl ?_
              refine j_iinc (k := 1) (lv' := [(4, .int (iI (t + 1))), (5, .int (iI (SF (lie now kk t)))), (3, .int (iI (ll))), (2, .int (iI (bb))), (0, .ref (q 36)), (1, .int (iI (kk)))]) hx hb dX7_bestOf_67 hl rfl (by decide) rfl (fun ls hl => ?_)
              refine lv_goto (tgt := 13) hx hb dX7_bestOf_70 rfl ?_
              exact ih13 (t + 1) bb ll ls H locs (by omega) (by rw [bst_s h1.1]; unfold bstep; first | (rw [if_pos (by omega)]; exact h2) | (rw [if_neg (by omega), if_neg (by omega)]) | (rw [if_neg (by omega), if_pos (by omega)]; exact h2)) (by rw [bst_s h1.1]; unfold bstep; first | (rw [if_pos (by omega)]; exact h3) | (rw [if_neg (by omega), if_neg (by omega)]) | (rw [if_neg (by omega), if_pos (by omega)]; exact h3)) (by omega) (lv_sub hl [0, 2, 3, 4, 5] rfl) hP hD hS
        · skip
          refine lv_goto (tgt := 67) hx hb dX7_bestOf_34 rfl ?_
          refine j_iinc (k := 0) (lv' := [(4, .int (iI (t + 1))), (3, .int (iI (ll))), (2, .int (iI (bb))), (0, .ref (q 36)), (1, .int (iI (kk)))]) hx hb dX7_bestOf_67 hl rfl (by decide) rfl (fun ls hl => ?_)
          refine lv_goto (tgt := 13) hx hb dX7_bestOf_70 rfl ?_
          exact ih13 (t + 1) bb ll ls H locs (by omega) (by rw [bst_s h1.1]; unfold bstep; first | (rw [if_pos (by omega)]; exact h2) | (rw [if_neg (by omega), if_neg (by omega)]) | (rw [if_neg (by omega), if_pos (by omega)]; exact h2)) (by rw [bst_s h1.1]; unfold bstep; first | (rw [if_pos (by omega)]; exact h3) | (rw [if_neg (by omega), if_neg (by omega)]) | (rw [if_neg (by omega), if_pos (by omega)]; exact h3)) (by omega) (lv_sub hl [0, 1, 2, 3, 4] rfl) hP hD hS
  exact L13 _ (now (190 + 5 * kk)) (-2) 0 ls s.heap [] (by omega) (by rw [Int.sub_self]; rfl) (by rw [Int.sub_self]; rfl) (Nat.lt_succ_self _) (lv_sub hl [0, 1, 2, 3, 4] rfl) hP hD hS

set_option maxHeartbeats 4000000 in
set_option maxRecDepth 100000 in
theorem c_X7_betterNow {l : Launch} {D : va_G} {C : Nat → ClassId} {q : Nat → Nat} {th ta fa sm : Int} {tape now snaps : Int → Int} {wo : Int64} {sc : Nat → Int} {sa : Nat → Int → Int} (hg : Wf now) : CI (S := Unit) l yX7_betterNow wsX7_betterNow 8 181 D C [.ref (q 36)] (wM q C th ta fa sm tape now snaps wo sc sa) (fun _ => wM q C th ta fa sm tape now snaps wo sc sa) (fun r _ => r = iI (betterOf now)) := by
  refine CI_of (cc := cX7_betterNow) (maxL := 6) (by decide) rfl (Nat.le_of_ble_eq_true rfl) ?_
  intro p e s m below meth c A Q ls hx hb hml hown hts hK hNW hA hl hP hD hS hret
  have hl : lv_has ls 6 [(0, .ref (q 36))] := hl
  have n := Wf_n hg
  have sf := SF_rng hg
  refine lv_aload_n hx hb dX7_betterNow_0 rfl (lv_at hl 0 rfl) ?_
  refine CR_callV (As := []) (rest := []) ⟨hx, hb, hml, hown, hts⟩ (c_X7_shortfall MN_wM hg ) (cwV 0 hts gX7_betterNow_X7_shortfall rfl rfl rfl (by decide +kernel) ⟨Nat.le_of_ble_eq_true rfl, Nat.le_of_ble_eq_true rfl⟩) (q0 := 0) rfl rfl rfl hK hNW hP rfl hl.1 rfl (Nat.le_of_ble_eq_true rfl) dX7_betterNow_1 ⟨Nat.zero_le _, Nat.zero_le _⟩ ?_
  refine lv_istore_n (lv' := [(1, .int (iI (SF now))), (0, .ref (q 36))]) hx hb dX7_betterNow_4 rfl hl (by decide) rfl (fun ls hl => ?_)
  refine lv_bipush (v := iI (-2)) hx hb dX7_betterNow_5 (by decide) ?_
  refine lv_istore_n (lv' := [(2, .int (iI (-2))), (1, .int (iI (SF now))), (0, .ref (q 36))]) hx hb dX7_betterNow_7 rfl hl (by decide) rfl (fun ls hl => ?_)
  refine lv_iconst (v := iI (0)) hx hb dX7_betterNow_8 rfl ?_
  refine lv_istore_n (lv' := [(3, .int (iI (0))), (2, .int (iI (-2))), (1, .int (iI (SF now))), (0, .ref (q 36))]) hx hb dX7_betterNow_9 rfl hl (by decide) rfl (fun ls hl => ?_)
  have L10 : ∀ (n : Nat) (k : Int) (bb : Int) (ll : Int) (ls : Array Slot) (H : Heap) (locs : List Loc), (0 ≤ k ∧ k ≤ now 3) → (bb = (btk now k.toNat).1) → (ll = (btk now k.toNat).2) → ((now 3 - k).toNat < n) → (lv_has ls 6 [(3, .int (iI (k))), (2, .int (iI (bb))), (1, .int (iI (ll))), (0, .ref (q 36))]) → (va_P D vwCl (wM q C th ta fa sm tape now snaps wo sc sa) H) → (va_D A (wM q C th ta fa sm tape now snaps wo sc sa)) → (va_S A s.heap H locs) → W p l e (rmN 8 181) s m ([.ref (q 36)] : List Value).toArray below meth c H locs 0 0 Q (F0 m 10 ls []) := by
    intro n
    induction n with
    | zero => intro k bb ll ls H locs h1 h2 h3 hn; exact absurd hn (Nat.not_lt_zero _)
    | succ n ih10 =>
      intro k bb ll ls H locs h1 h2 h3 hn hl hP hD hS
      have hn10 := hn
      have ok := btk_ok hg k.toNat (by omega)
      refine lv_iload_n hx hb dX7_betterNow_10 rfl (lv_at hl 0 rfl) ?_
      refine lv_aload_n hx hb dX7_betterNow_11 rfl (lv_at hl 3 rfl) ?_
      refine va_get (D := D) (ci := 7) (v := .ref (q 38)) (C := RX7) (T := TX7) (N := 23) hx hb hts (by decide +kernel) hown hK hP 0 rfl rfl 11 (by decide) (hts (.fieldLink RX7 74 "BreakSetterModel" "now" "[I") (by decide +kernel)) (fun _ h9 => h9) rfl dX7_betterNow_12 ?_
      refine lv_iconst (v := iI (3)) hx hb dX7_betterNow_15 rfl ?_
      refine j_iald hx hb hK hP 2 1 rfl rfl ⟨by omega, by omega⟩ (Nat.le_of_ble_eq_true rfl) dX7_betterNow_16 ?_
      refine j_icmp_ge (tgt := 112) hx hb dX7_betterNow_17 rfl ⟨by omega, by omega⟩ ⟨by omega, by omega⟩ (fun c17 => ?_) (fun c17 => ?_)
      · skip
        refine lv_iload_n hx hb dX7_betterNow_112 rfl (lv_at hl 1 rfl) ?_
        exact hret H locs ls 113 _ () dX7_betterNow_113 (by rw [h2, show k = now 3 by omega]; rfl) hP hD hS
      · skip
        have b := Wf_p hg (k := k) (by omega) (by omega)
        refine lv_aload_n hx hb dX7_betterNow_20 rfl (lv_at hl 3 rfl) ?_
        refine lv_iload_n hx hb dX7_betterNow_21 rfl (lv_at hl 0 rfl) ?_
        refine lv_iconst (v := iI (2)) hx hb dX7_betterNow_22 rfl ?_
        refine CR_callV (As := [.int (iI (k)), .int (iI (2))]) (rest := []) ⟨hx, hb, hml, hown, hts⟩ (c_X7_its MN_wM (by omega) (by omega)) (cwV 2 hts gX7_betterNow_X7_its rfl rfl rfl (by decide +kernel) ⟨Nat.le_of_ble_eq_true rfl, Nat.le_of_ble_eq_true rfl⟩) (q0 := 0) rfl rfl rfl hK hNW hP rfl hl.1 rfl (Nat.le_of_ble_eq_true rfl) dX7_betterNow_23 ⟨Nat.zero_le _, Nat.zero_le _⟩ ?_
        refine W_wen (y := iI (now (190 + 5 * k))) (congrArg iI (congrArg now (by omega))) ?_
        refine lv_istore (lv' := [(4, .int (iI (now (190 + 5 * k)))), (3, .int (iI (k))), (2, .int (iI (bb))), (1, .int (iI (ll))), (0, .ref (q 36))]) hx hb dX7_betterNow_26 hl (by decide) rfl (fun ls hl => ?_)
        have L28 : ∀ (n : Nat) (t : Int) (b2 : Int) (l2 : Int) (ls : Array Slot) (H : Heap) (locs : List Loc), (now (190 + 5 * k) ≤ t ∧ t ≤ now (191 + 5 * k) + 1) → (t ≤ now (190 + 5 * k) ∨ ¬ now (192 + 5 * k) - 1 = -1) → (b2 = (btt now k (btk now k.toNat) (t - now (190 + 5 * k)).toNat).1) → (l2 = (btt now k (btk now k.toNat) (t - now (190 + 5 * k)).toNat).2) → ((now (191 + 5 * k) + 1 - t).toNat < n) → (lv_has ls 6 [(4, .int (iI (t))), (3, .int (iI (k))), (2, .int (iI (b2))), (1, .int (iI (l2))), (0, .ref (q 36))]) → (va_P D vwCl (wM q C th ta fa sm tape now snaps wo sc sa) H) → (va_D A (wM q C th ta fa sm tape now snaps wo sc sa)) → (va_S A s.heap H locs) → W p l e (rmN 8 181) s m ([.ref (q 36)] : List Value).toArray below meth c H locs 0 0 Q (F0 m 28 ls []) := by
          intro n
          induction n with
          | zero => intro t b2 l2 ls H locs g1 gp g2 g3 hn; exact absurd hn (Nat.not_lt_zero _)
          | succ n ih28 =>
            intro t b2 l2 ls H locs g1 gp g2 g3 hn hl hP hD hS
            have hn28 := hn
            refine lv_iload hx hb dX7_betterNow_28 (lv_at hl 0 rfl) ?_
            refine lv_aload_n hx hb dX7_betterNow_30 rfl (lv_at hl 4 rfl) ?_
            refine lv_iload_n hx hb dX7_betterNow_31 rfl (lv_at hl 1 rfl) ?_
            refine lv_iconst (v := iI (3)) hx hb dX7_betterNow_32 rfl ?_
            refine CR_callV (As := [.int (iI (k)), .int (iI (3))]) (rest := [.int (iI (t))]) ⟨hx, hb, hml, hown, hts⟩ (c_X7_its MN_wM (by omega) (by omega)) (cwV 2 hts gX7_betterNow_X7_its rfl rfl rfl (by decide +kernel) ⟨Nat.le_of_ble_eq_true rfl, Nat.le_of_ble_eq_true rfl⟩) (q0 := 0) rfl rfl rfl hK hNW hP rfl hl.1 rfl (Nat.le_of_ble_eq_true rfl) dX7_betterNow_33 ⟨Nat.zero_le _, Nat.zero_le _⟩ ?_
            refine W_wen (y := iI (now (191 + 5 * k))) (congrArg iI (congrArg now (by omega))) ?_
            refine j_icmp_gt (tgt := 106) hx hb dX7_betterNow_36 rfl ⟨by omega, by omega⟩ ⟨by omega, by omega⟩ (fun c36 => ?_) (fun c36 => ?_)
            · skip
              have hpl : ¬ now (192 + 5 * k) - 1 = -1 := by omega
              refine j_iinc (k := 1) (lv' := [(3, .int (iI (k + 1))), (4, .int (iI (t))), (2, .int (iI (b2))), (1, .int (iI (l2))), (0, .ref (q 36))]) hx hb dX7_betterNow_106 hl rfl (by decide) rfl (fun ls hl => ?_)
              refine lv_goto (tgt := 10) hx hb dX7_betterNow_109 rfl ?_
              exact ih10 (k + 1) b2 l2 ls H locs (by omega) (by rw [btk_s h1.1]; unfold btn; (rw [if_neg hpl, show now (191 + 5 * k) + 1 = t by omega]; exact g2)) (by rw [btk_s h1.1]; unfold btn; (rw [if_neg hpl, show now (191 + 5 * k) + 1 = t by omega]; exact g3)) (by omega) (lv_sub hl [0, 2, 3, 4] rfl) hP hD hS
            · skip
              refine lv_aload_n hx hb dX7_betterNow_39 rfl (lv_at hl 4 rfl) ?_
              refine lv_iload_n hx hb dX7_betterNow_40 rfl (lv_at hl 1 rfl) ?_
              refine CR_callV (As := [.int (iI (k))]) (rest := []) ⟨hx, hb, hml, hown, hts⟩ (c_X7_placeOf MN_wM (by omega) (by omega)) (cwV 1 hts gX7_betterNow_X7_placeOf rfl rfl rfl (by decide +kernel) ⟨Nat.le_of_ble_eq_true rfl, Nat.le_of_ble_eq_true rfl⟩) (q0 := 0) rfl rfl rfl hK hNW hP rfl hl.1 rfl (Nat.le_of_ble_eq_true rfl) dX7_betterNow_41 ⟨Nat.zero_le _, Nat.zero_le _⟩ ?_
              refine lv_iconst (v := iI (-1)) hx hb dX7_betterNow_44 rfl ?_
              refine j_icmp_eq (tgt := 106) hx hb dX7_betterNow_45 rfl ⟨by omega, by omega⟩ ⟨by decide, by decide⟩ (fun c45 => ?_) (fun c45 => ?_)
              · skip
                have ht0 : t = now (190 + 5 * k) := by omega
                have g2b : b2 = bb := by rw [g2, ht0, Int.sub_self, h2]; rfl
                have g3b : l2 = ll := by rw [g3, ht0, Int.sub_self, h3]; rfl
                refine j_iinc (k := 1) (lv' := [(3, .int (iI (k + 1))), (4, .int (iI (t))), (2, .int (iI (b2))), (1, .int (iI (l2))), (0, .ref (q 36))]) hx hb dX7_betterNow_106 hl rfl (by decide) rfl (fun ls hl => ?_)
                refine lv_goto (tgt := 10) hx hb dX7_betterNow_109 rfl ?_
                exact ih10 (k + 1) b2 l2 ls H locs (by omega) (by rw [btk_s h1.1]; unfold btn; (rw [if_pos c45, g2b, h2])) (by rw [btk_s h1.1]; unfold btn; (rw [if_pos c45, g3b, h3])) (by omega) (lv_sub hl [0, 2, 3, 4] rfl) hP hD hS
              · skip
                have hpl : ¬ now (192 + 5 * k) - 1 = -1 := c45
                have yy := wy_rng now k t
                have ok2 := (btt_ok hg (by omega) (by omega) hpl (by rw [Int.toNat_of_nonneg h1.1] at ok; exact ok) (t - now (190 + 5 * k)).toNat (by omega)).1
                rw [← g3] at ok2
                refine lv_iload hx hb dX7_betterNow_48 (lv_at hl 0 rfl) ?_
                refine lv_aload_n hx hb dX7_betterNow_50 rfl (lv_at hl 4 rfl) ?_
                refine lv_iload_n hx hb dX7_betterNow_51 rfl (lv_at hl 1 rfl) ?_
                refine CR_callV (As := [.int (iI (k))]) (rest := [.int (iI (t))]) ⟨hx, hb, hml, hown, hts⟩ (c_X7_placeOf MN_wM (by omega) (by omega)) (cwV 1 hts gX7_betterNow_X7_placeOf rfl rfl rfl (by decide +kernel) ⟨Nat.le_of_ble_eq_true rfl, Nat.le_of_ble_eq_true rfl⟩) (q0 := 0) rfl rfl rfl hK hNW hP rfl hl.1 rfl (Nat.le_of_ble_eq_true rfl) dX7_betterNow_52 ⟨Nat.zero_le _, Nat.zero_le _⟩ ?_
                refine j_icmp_eq (tgt := 100) hx hb dX7_betterNow_55 rfl ⟨by omega, by omega⟩ ⟨by omega, by omega⟩ (fun c55 => ?_) (fun c55 => ?_)
                · skip
                  refine j_iinc (k := 0) (lv' := [(4, .int (iI (t + 1))), (3, .int (iI (k))), (2, .int (iI (b2))), (1, .int (iI (l2))), (0, .ref (q 36))]) hx hb dX7_betterNow_100 hl rfl (by decide) rfl (fun ls hl => ?_)
                  refine lv_goto (tgt := 28) hx hb dX7_betterNow_103 rfl ?_
                  exact ih28 (t + 1) b2 l2 ls H locs (by omega) (Or.inr hpl) (by rw [btt_s g1.1]; unfold mstep; first | (rw [if_pos (by omega)]; exact g2) | (rw [if_neg (by omega)])) (by rw [btt_s g1.1]; unfold mstep; first | (rw [if_pos (by omega)]; exact g3) | (rw [if_neg (by omega)])) (by omega) (lv_sub hl [0, 1, 2, 3, 4] rfl) hP hD hS
                · skip
                  refine lv_aload_n hx hb dX7_betterNow_58 rfl (lv_at hl 4 rfl) ?_
                  refine lv_iload_n hx hb dX7_betterNow_59 rfl (lv_at hl 1 rfl) ?_
                  refine lv_iload hx hb dX7_betterNow_60 (lv_at hl 0 rfl) ?_
                  refine CR_callV (As := [.int (iI (k)), .int (iI (t))]) (rest := []) ⟨hx, hb, hml, hown, hts⟩ (c_X7_whyNot MN_wM hg (by omega) (by omega)) (cwV 2 hts gX7_betterNow_X7_whyNot rfl rfl rfl (by decide +kernel) ⟨Nat.le_of_ble_eq_true rfl, Nat.le_of_ble_eq_true rfl⟩) (q0 := 0) rfl rfl rfl hK hNW hP rfl hl.1 rfl (Nat.le_of_ble_eq_true rfl) dX7_betterNow_62 ⟨Nat.zero_le _, Nat.zero_le _⟩ ?_
                  refine j_if_le (tgt := 71) hx hb dX7_betterNow_65 rfl ⟨by omega, by omega⟩ (fun c65 => ?_) (fun c65 => ?_)
                  · skip
                    refine lv_aload_n hx hb dX7_betterNow_71 rfl (lv_at hl 4 rfl) ?_
                    refine lv_iload_n hx hb dX7_betterNow_72 rfl (lv_at hl 1 rfl) ?_
                    refine lv_iload hx hb dX7_betterNow_73 (lv_at hl 0 rfl) ?_
                    refine CI_callV0 (As := [.int (iI (k)), .int (iI (t))]) (rest := []) ⟨hx, hb, hml, hown, hts⟩ (c_X7_scoreAt hg (by omega) (by omega)) (cwV 2 hts gX7_betterNow_X7_scoreAt rfl rfl rfl (by decide +kernel) ⟨Nat.le_of_ble_eq_true rfl, Nat.le_of_ble_eq_true rfl⟩) (q0 := 0) rfl rfl rfl hK hNW hP hD hS hA rfl hl.1 rfl (Nat.le_of_ble_eq_true rfl) dX7_betterNow_75 ⟨Nat.zero_le _, Nat.zero_le _⟩ (fun r u H locs hw9 hP hD hS => ?_)
                    have hw9 : r = iI (SF (lie now k t)) := hw9
                    subst hw9
                    have hP : va_P D vwCl (wM q C th ta fa sm tape now snaps wo sc sa) H := hP
                    have hD : va_D A (wM q C th ta fa sm tape now snaps wo sc sa) := hD
                    have ss := SF_rng (Wf_lie hg (k := k) (t := t) (by omega) (by omega) (Or.inr ⟨by omega, by omega⟩))
                    refine lv_istore (lv' := [(5, .int (iI (SF (lie now k t)))), (4, .int (iI (t))), (3, .int (iI (k))), (2, .int (iI (b2))), (1, .int (iI (l2))), (0, .ref (q 36))]) hx hb dX7_betterNow_78 hl (by decide) rfl (fun ls hl => ?_)
                    refine lv_iload hx hb dX7_betterNow_80 (lv_at hl 0 rfl) ?_
                    refine lv_iload_n hx hb dX7_betterNow_82 rfl (lv_at hl 4 rfl) ?_
                    refine j_icmp_lt (tgt := 89) hx hb dX7_betterNow_83 rfl ⟨by omega, by omega⟩ ⟨by omega, by omega⟩ (fun c83 => ?_) (fun c83 => ?_)
                    · skip
                      refine lv_iload hx hb dX7_betterNow_89 (lv_at hl 0 rfl) ?_
                      refine lv_istore_n (lv' := [(1, .int (iI (SF (lie now k t)))), (5, .int (iI (SF (lie now k t)))), (4, .int (iI (t))), (3, .int (iI (k))), (2, .int (iI (b2))), (0, .ref (q 36))]) hx hb dX7_betterNow_91 rfl hl (by decide) rfl (fun ls hl => ?_)
                      refine lv_bipush (v := iI (100)) hx hb dX7_betterNow_92 (by decide) ?_
                      refine lv_iload_n hx hb dX7_betterNow_94 rfl (lv_at hl 3 rfl) ?_
                      refine j_imul hx hb dX7_betterNow_95 ?_
                      refine lv_iload hx hb dX7_betterNow_96 (lv_at hl 2 rfl) ?_
                      refine j_iadd hx hb dX7_betterNow_98 ?_
                      refine lv_istore_n (lv' := [(2, .int (iI ((100 * k) + t))), (1, .int (iI (SF (lie now k t)))), (5, .int (iI (SF (lie now k t)))), (4, .int (iI (t))), (3, .int (iI (k))), (0, .ref (q 36))]) hx hb dX7_betterNow_99 rfl hl (by decide) rfl (fun ls hl => ?_)
                      refine j_iinc (k := 3) (lv' := [(4, .int (iI (t + 1))), (2, .int (iI ((100 * k) + t))), (1, .int (iI (SF (lie now k t)))), (5, .int (iI (SF (lie now k t)))), (3, .int (iI (k))), (0, .ref (q 36))]) hx hb dX7_betterNow_100 hl rfl (by decide) rfl (fun ls hl => ?_)
                      refine lv_goto (tgt := 28) hx hb dX7_betterNow_103 rfl ?_
                      exact ih28 (t + 1) ((100 * k) + t) (SF (lie now k t)) ls H locs (by omega) (Or.inr hpl) (by rw [btt_s g1.1]; unfold mstep; first | (rw [if_pos (by omega)]; exact g2) | (rw [if_neg (by omega)])) (by rw [btt_s g1.1]; unfold mstep; first | (rw [if_pos (by omega)]; exact g3) | (rw [if_neg (by omega)])) (by omega) (lv_sub hl [0, 4, 1, 2, 5] rfl) hP hD hS
                    · skip
                      refine lv_goto (tgt := 100) hx hb dX7_betterNow_86 rfl ?_
                      refine j_iinc (k := 1) (lv' := [(4, .int (iI (t + 1))), (5, .int (iI (SF (lie now k t)))), (3, .int (iI (k))), (2, .int (iI (b2))), (1, .int (iI (l2))), (0, .ref (q 36))]) hx hb dX7_betterNow_100 hl rfl (by decide) rfl (fun ls hl => ?_)
                      refine lv_goto (tgt := 28) hx hb dX7_betterNow_103 rfl ?_
                      exact ih28 (t + 1) b2 l2 ls H locs (by omega) (Or.inr hpl) (by rw [btt_s g1.1]; unfold mstep; first | (rw [if_pos (by omega)]; exact g2) | (rw [if_neg (by omega)])) (by rw [btt_s g1.1]; unfold mstep; first | (rw [if_pos (by omega)]; exact g3) | (rw [if_neg (by omega)])) (by omega) (lv_sub hl [0, 2, 3, 4, 5] rfl) hP hD hS
                  · skip
                    refine lv_goto (tgt := 100) hx hb dX7_betterNow_68 rfl ?_
                    refine j_iinc (k := 0) (lv' := [(4, .int (iI (t + 1))), (3, .int (iI (k))), (2, .int (iI (b2))), (1, .int (iI (l2))), (0, .ref (q 36))]) hx hb dX7_betterNow_100 hl rfl (by decide) rfl (fun ls hl => ?_)
                    refine lv_goto (tgt := 28) hx hb dX7_betterNow_103 rfl ?_
                    exact ih28 (t + 1) b2 l2 ls H locs (by omega) (Or.inr hpl) (by rw [btt_s g1.1]; unfold mstep; first | (rw [if_pos (by omega)]; exact g2) | (rw [if_neg (by omega)])) (by rw [btt_s g1.1]; unfold mstep; first | (rw [if_pos (by omega)]; exact g3) | (rw [if_neg (by omega)])) (by omega) (lv_sub hl [0, 1, 2, 3, 4] rfl) hP hD hS
        exact L28 _ (now (190 + 5 * k)) bb ll ls H locs (by omega) (by omega) (by rw [Int.sub_self]; exact h2) (by rw [Int.sub_self]; exact h3) (Nat.lt_succ_self _) (lv_sub hl [0, 1, 2, 3, 4] rfl) hP hD hS
  exact L10 _ 0 (-2) (SF now) ls s.heap [] (by omega) rfl rfl (Nat.lt_succ_self _) (lv_sub hl [0, 1, 2, 3] rfl) hP hD hS
