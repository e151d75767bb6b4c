theorem Ro3_move {g : Int → Int} (h : Wf g) {k t : Int} (hk : 0 ≤ k ∧ k < g 3) (ht : g (190 + 5 * k) ≤ t ∧ t ≤ g (191 + 5 * k)) {s1 : Int} {p1 c1 : Int → Int} (hR : Ro3 (lie g k (-1)) (s1, p1, c1)) : Ro3 (lie g k t) (s1 + sm (fun j => clo g c1 (pk g k * 48 + t + j)) (g (189 + 5 * k)).toNat, up p1 k t, dcf c1 (pk g k * 48 + t) (pk g k * 48 + t + g (189 + 5 * k))) := by
  have w := Wf_p h hk.1 hk.2
  have pr := pk_rng h hk.1 hk.2
  have wg := Wf_lie h hk.1 hk.2 (t := -1) (Or.inl rfl)
  obtain ⟨r1, r2, r3⟩ := hR
  have q := Ro3_leave wg (k := k) (t := t) hk.1 (by rw [lie_lo hk.1 (by omega)]; exact hk.2) (by rw [lie_s]; rfl) (by rw [lie_a.2.2.1, lie_a.2.2.2]; exact ht) (cv := c1) r3
  rw [lie_lie, pk_lie hk.1 (by omega), lie_a.2.1] at q
  refine ⟨?_, fun j j0 j1 => ?_, q.2⟩
  · show s1 + _ = _
    rw [q.1, show s1 = SF (lie g k (-1)) from r1, sm_cong (f := fun j => clo g c1 (pk g k * 48 + t + j)) (g := fun j => clo (lie g k (-1)) c1 (pk g k * 48 + t + j)) (n := (g (189 + 5 * k)).toNat) (fun i i0 i1 => by unfold clo; rw [lie_lo hk.1 (by omega)])]
  · show up p1 k t j = _
    by_cases e : j = k
    · subst e
      rw [up_s, lie_s]
      omega
    · rw [up_n _ _ e, lie_x e]
      have := r2 j j0 j1
      rw [lie_x e] at this
      exact this
set_option maxHeartbeats 4000000 in
set_option maxRecDepth 100000 in
theorem c_X3_leavePost {l : Launch} {D : va_G} {C : Nat → ClassId} {q : Nat → Nat} {wp : va_W} {g : Int → Int} (hw : PlW q C wp g) (hg : Wf g) {sf : Int} {pla cv : Int → Int} (hcv : ∀ c : Int, 0 ≤ c → c < 144 → -200 ≤ cv c ∧ cv c ≤ 200) {kk tt : Int} (hk : 0 ≤ kk ∧ kk < g 3) (ht : 0 ≤ tt ∧ tt + g (189 + 5 * kk) ≤ 48) : CV (S := Unit) l yX3_leavePost wsX3_leavePost 2 43 D C [.ref (q 28), .int (iI (kk)), .int (iI (tt))] (wRo q C sf pla cv ++ wp) (fun _ => wRo q C (sf + sm (fun j => clo g cv ((pk g kk * 48 + tt) + j)) (g (189 + 5 * kk)).toNat) pla (dcf cv (pk g kk * 48 + tt) ((pk g kk * 48 + tt) + g (189 + 5 * kk))) ++ wp) (fun _ => True) := by
  obtain ⟨⟨k16, ln, nd, h16⟩, ⟨k17, f17, h17, e17⟩, ⟨k18, f18, h18, e18⟩, ⟨k19, f19, h19, e19⟩, ⟨k20, f20, h20, e20⟩, ⟨k21, f21, h21, e21⟩, ⟨k22, f22, h22, e22⟩, ⟨k23, f23, h23, e23⟩, ⟨k24, f24, h24, e24⟩, ⟨k25, f25, h25, e25⟩, ⟨k26, f26, h26, e26⟩, ⟨k27, f27, h27, e27⟩⟩ := id hw
  refine CV_of (cc := cX3_leavePost) (maxL := 5) (by decide) rfl (Nat.le_of_ble_eq_true rfl) ?_
  intro p e s m below meth c A Q ls hx hb hml hown hts hK hNW hA hl hP hD hS hret
  have hl : lv_has ls 5 [(0, .ref (q 28)), (1, .int (iI (kk))), (2, .int (iI (tt)))] := hl
  have n := Wf_n hg
  have b := Wf_p hg hk.1 hk.2
  have pr := pk_rng hg hk.1 hk.2
  refine lv_aload_n hx hb dX3_leavePost_0 rfl (lv_at hl 0 rfl) ?_
  refine va_get (D := D) (ci := 3) (v := .ref (q 16)) (C := RX3) (T := TX3) (N := 4) hx hb hts (by decide +kernel) hown hK hP 0 rfl rfl 0 (by decide) (hts (.fieldLink RX3 9 "BreakSetter$Roster" "plan" "LBreakSetter$Plan;") (by decide +kernel)) (fun _ h9 => h9) rfl dX3_leavePost_1 ?_
  refine lv_iload_n hx hb dX3_leavePost_4 rfl (lv_at hl 1 rfl) ?_
  refine lv_iload_n hx hb dX3_leavePost_5 rfl (lv_at hl 2 rfl) ?_
  refine CR_callV (As := [.int (iI (kk)), .int (iI (tt))]) (rest := []) ⟨hx, hb, hml, hown, hts⟩ (c_X1_cellOfPause (PlW_add hw _) hg hk) (cwV 2 hts gX3_leavePost_X1_cellOfPause rfl rfl rfl (by decide +kernel) ⟨Nat.le_of_ble_eq_true rfl, Nat.le_of_ble_eq_true rfl⟩) (q0 := (k16 + 3)) h16 rfl rfl hK hNW hP rfl hl.1 rfl (Nat.le_of_ble_eq_true rfl) dX3_leavePost_6 ⟨Nat.zero_le _, Nat.zero_le _⟩ ?_
  refine lv_istore_n (lv' := [(3, .int (iI (pk g kk * 48 + tt))), (0, .ref (q 28)), (1, .int (iI (kk))), (2, .int (iI (tt)))]) hx hb dX3_leavePost_9 rfl hl (by decide) rfl (fun ls hl => ?_)
  refine lv_iload_n hx hb dX3_leavePost_10 rfl (lv_at hl 0 rfl) ?_
  refine lv_istore (lv' := [(4, .int (iI (pk g kk * 48 + tt))), (3, .int (iI (pk g kk * 48 + tt))), (0, .ref (q 28)), (1, .int (iI (kk))), (2, .int (iI (tt)))]) hx hb dX3_leavePost_11 hl (by decide) rfl (fun ls hl => ?_)
  have L13 : ∀ (n : Nat) (i : Int) (s2 : Int) (c2 : Int → Int) (ls : Array Slot) (H : Heap) (locs : List Loc), ((pk g kk * 48 + tt) ≤ i ∧ i ≤ (pk g kk * 48 + tt) + g (189 + 5 * kk)) → (s2 = sf + sm (fun j => clo g cv ((pk g kk * 48 + tt) + j)) (i - (pk g kk * 48 + tt)).toNat) → (c2 = dcf cv (pk g kk * 48 + tt) i) → (((pk g kk * 48 + tt) + g (189 + 5 * kk) - i).toNat < n) → (lv_has ls 5 [(4, .int (iI (i))), (3, .int (iI (pk g kk * 48 + tt))), (0, .ref (q 28)), (1, .int (iI (kk))), (2, .int (iI (tt)))]) → (va_P D vwCl (wRo q C s2 pla c2 ++ wp) H) → (va_D A (wRo q C s2 pla c2 ++ wp)) → (va_S A s.heap H locs) → W p l e (rmN 2 43) s m ([.ref (q 28), .int (iI (kk)), .int (iI (tt))] : List Value).toArray below meth c H locs 0 0 Q (F0 m 13 ls []) := by
    intro n
    induction n with
    | zero => intro i s2 c2 ls H locs h1 h2 h3 hn; exact absurd hn (Nat.not_lt_zero _)
    | succ n ih13 =>
      intro i s2 c2 ls H locs h1 h2 h3 hn hl hP hD hS
      have hn13 := hn
      refine lv_iload hx hb dX3_leavePost_13 (lv_at hl 0 rfl) ?_
      refine lv_iload_n hx hb dX3_leavePost_15 rfl (lv_at hl 1 rfl) ?_
      refine lv_aload_n hx hb dX3_leavePost_16 rfl (lv_at hl 2 rfl) ?_
      refine va_get (D := D) (ci := 3) (v := .ref (q 16)) (C := RX3) (T := TX3) (N := 4) hx hb hts (by decide +kernel) hown hK hP 0 rfl rfl 0 (by decide) (hts (.fieldLink RX3 9 "BreakSetter$Roster" "plan" "LBreakSetter$Plan;") (by decide +kernel)) (fun _ h9 => h9) rfl dX3_leavePost_17 ?_
      refine va_get (D := D) (ci := 1) (v := .ref (q 25)) (C := RX1) (T := TX1) (N := 17) hx hb hts (by decide +kernel) hown hK hP (k16 + 3) h16 rfl 14 (by decide) (hts (.fieldLink RX3 76 "BreakSetter$Plan" "pauseLong" "[I") (by decide +kernel)) (fun _ h9 => h9) rfl dX3_leavePost_20 ?_
      refine lv_iload_n hx hb dX3_leavePost_23 rfl (lv_at hl 3 rfl) ?_
      refine j_iald hx hb hK hP (k25 + 3) 1 h25 rfl ⟨by omega, by omega⟩ (Nat.le_of_ble_eq_true rfl) dX3_leavePost_24 ?_
      refine W_wen (y := iI (g (189 + 5 * kk))) (congrArg iI (e25 kk (by omega) (by omega))) ?_
      refine j_iadd hx hb dX3_leavePost_25 ?_
      refine j_icmp_ge (tgt := 76) hx hb dX3_leavePost_26 rfl ⟨by omega, by omega⟩ ⟨by omega, by omega⟩ (fun c26 => ?_) (fun c26 => ?_)
      · skip
        have e6 : i = (pk g kk * 48 + tt) + g (189 + 5 * kk) := by omega
        subst h2
        subst h3
        subst e6
        rw [show (pk g kk * 48 + tt) + g (189 + 5 * kk) - (pk g kk * 48 + tt) = g (189 + 5 * kk) by omega] at hP hD
        exact hret H locs ls 76 () dX3_leavePost_76 trivial hP hD hS
      · skip
        have b4 := Wf_need hg (c := i) (by omega) (by omega)
        have b5 := hcv i (by omega) (by omega)
        have e5 : c2 i = cv i := by rw [h3]; exact dcf_at _ _ _
        refine lv_aload_n hx hb dX3_leavePost_29 rfl (lv_at hl 2 rfl) ?_
        refine va_get (D := D) (ci := 3) (v := .ref (q 16)) (C := RX3) (T := TX3) (N := 4) hx hb hts (by decide +kernel) hown hK hP 0 rfl rfl 0 (by decide) (hts (.fieldLink RX3 9 "BreakSetter$Roster" "plan" "LBreakSetter$Plan;") (by decide +kernel)) (fun _ h9 => h9) rfl dX3_leavePost_30 ?_
        refine va_get (D := D) (ci := 1) (v := .ref (q 17)) (C := RX1) (T := TX1) (N := 17) hx hb hts (by decide +kernel) hown hK hP (k16 + 3) h16 rfl 6 (by decide) (hts (.fieldLink RX3 57 "BreakSetter$Plan" "need" "[I") (by decide +kernel)) (fun _ h9 => h9) rfl dX3_leavePost_33 ?_
        refine lv_iload hx hb dX3_leavePost_36 (lv_at hl 0 rfl) ?_
        refine j_iald hx hb hK hP (k17 + 3) 1 h17 rfl ⟨by omega, by omega⟩ (Nat.le_of_ble_eq_true rfl) dX3_leavePost_38 ?_
        refine W_wen (y := iI (g (4 + i))) (congrArg iI (e17 i (by omega) (by omega))) ?_
        refine lv_aload_n hx hb dX3_leavePost_39 rfl (lv_at hl 2 rfl) ?_
        refine va_get (D := D) (ci := 3) (v := .ref (q 30)) (C := RX3) (T := TX3) (N := 4) hx hb hts (by decide +kernel) hown hK hP 0 rfl rfl 2 (by decide) (hts (.fieldLink RX3 19 "BreakSetter$Roster" "cover" "[I") (by decide +kernel)) (fun _ h9 => h9) rfl dX3_leavePost_40 ?_
        refine lv_iload hx hb dX3_leavePost_43 (lv_at hl 0 rfl) ?_
        refine j_iald hx hb hK hP 2 1 rfl rfl ⟨by omega, by omega⟩ (Nat.le_of_ble_eq_true rfl) dX3_leavePost_45 ?_
        refine j_icmp_lt (tgt := 59) hx hb dX3_leavePost_46 rfl ⟨by omega, by omega⟩ ⟨by omega, by omega⟩ (fun c46 => ?_) (fun c46 => ?_)
        · skip
          refine lv_aload_n hx hb dX3_leavePost_59 rfl (lv_at hl 2 rfl) ?_
          refine va_get (D := D) (ci := 3) (v := .ref (q 30)) (C := RX3) (T := TX3) (N := 4) hx hb hts (by decide +kernel) hown hK hP 0 rfl rfl 2 (by decide) (hts (.fieldLink RX3 19 "BreakSetter$Roster" "cover" "[I") (by decide +kernel)) (fun _ h9 => h9) rfl dX3_leavePost_60 ?_
          refine lv_iload hx hb dX3_leavePost_63 (lv_at hl 0 rfl) ?_
          refine lv_dup2_11 hx hb dX3_leavePost_65 rfl rfl ?_
          refine j_iald hx hb hK hP 2 1 rfl rfl ⟨by omega, by omega⟩ (Nat.le_of_ble_eq_true rfl) dX3_leavePost_66 ?_
          refine lv_iconst (v := iI (1)) hx hb dX3_leavePost_67 rfl ?_
          refine j_isub hx hb dX3_leavePost_68 ?_
          refine j_iast hx hb hK hP hD hS 2 1 rfl rfl ⟨by omega, by omega⟩ (Nat.le_of_ble_eq_true rfl) dX3_leavePost_69 (fun H locs hP hD hS => ?_)
          have hP : va_P D vwCl (wRo q C s2 pla (up c2 i ((c2 i) - 1)) ++ wp) H := hP
          have hD : va_D A (wRo q C s2 pla (up c2 i ((c2 i) - 1)) ++ wp) := hD
          refine j_iinc (k := 0) (lv' := [(4, .int (iI (i + 1))), (3, .int (iI (pk g kk * 48 + tt))), (0, .ref (q 28)), (1, .int (iI (kk))), (2, .int (iI (tt)))]) hx hb dX3_leavePost_70 hl rfl (by decide) rfl (fun ls hl => ?_)
          refine lv_goto (tgt := 13) hx hb dX3_leavePost_73 rfl ?_
          exact ih13 (i + 1) s2 (up c2 i ((c2 i) - 1)) ls H locs (by omega) (by rw [sm_at (a := (pk g kk * 48 + tt)) h1.1]; first | (rw [show clo g cv i = 1 from bI_t (by omega)]; omega; done) | (rw [show clo g cv i = 0 from bI_f (by omega)]; omega; done)) (by rw [h3]; exact dcf_s h1.1) (by omega) (lv_sub hl [0, 1, 2, 3, 4] rfl) hP hD hS
        · skip
          refine lv_aload_n hx hb dX3_leavePost_49 rfl (lv_at hl 2 rfl) ?_
          refine lv_dup hx hb dX3_leavePost_50 rfl ?_
          refine va_get (D := D) (ci := 3) (v := .int (iI (s2))) (C := RX3) (T := TX3) (N := 4) hx hb hts (by decide +kernel) hown hK hP 0 rfl rfl 3 (by decide) (hts (.fieldLink RX3 42 "BreakSetter$Roster" "shortfall" "I") (by decide +kernel)) (fun _ h9 => h9) rfl dX3_leavePost_51 ?_
          refine lv_iconst (v := iI (1)) hx hb dX3_leavePost_54 rfl ?_
          refine j_iadd hx hb dX3_leavePost_55 ?_
          refine va_put (D := D) (ci := 3) (v := .int (iI (s2 + 1))) (ty := .int) (C := RX3) (T := TX3) (N := 4) hx hb hts (by decide +kernel) tyX3 tyX3_ok nmX3 hown hK hP hD hS 0 rfl rfl 3 (by decide) (hts (.fieldLink RX3 42 "BreakSetter$Roster" "shortfall" "I") (by decide +kernel)) (fun _ h9 => h9) rfl (by decide +kernel) rfl rfl (Nat.le_of_ble_eq_true rfl) dX3_leavePost_56 (fun H locs hP hD hS => ?_)
          have hP : va_P D vwCl (wRo q C (s2 + 1) pla c2 ++ wp) H := hP
          have hD : va_D A (wRo q C (s2 + 1) pla c2 ++ wp) := hD
          refine lv_aload_n hx hb dX3_leavePost_59 rfl (lv_at hl 2 rfl) ?_
          refine va_get (D := D) (ci := 3) (v := .ref (q 30)) (C := RX3) (T := TX3) (N := 4) hx hb hts (by decide +kernel) hown hK hP 0 rfl rfl 2 (by decide) (hts (.fieldLink RX3 19 "BreakSetter$Roster" "cover" "[I") (by decide +kernel)) (fun _ h9 => h9) rfl dX3_leavePost_60 ?_
          refine lv_iload hx hb dX3_leavePost_63 (lv_at hl 0 rfl) ?_
          refine lv_dup2_11 hx hb dX3_leavePost_65 rfl rfl ?_
          refine j_iald hx hb hK hP 2 1 rfl rfl ⟨by omega, by omega⟩ (Nat.le_of_ble_eq_true rfl) dX3_leavePost_66 ?_
          refine lv_iconst (v := iI (1)) hx hb dX3_leavePost_67 rfl ?_
          refine j_isub hx hb dX3_leavePost_68 ?_
          refine j_iast hx hb hK hP hD hS 2 1 rfl rfl ⟨by omega, by omega⟩ (Nat.le_of_ble_eq_true rfl) dX3_leavePost_69 (fun H locs hP hD hS => ?_)
          have hP : va_P D vwCl (wRo q C (s2 + 1) pla (up c2 i ((c2 i) - 1)) ++ wp) H := hP
          have hD : va_D A (wRo q C (s2 + 1) pla (up c2 i ((c2 i) - 1)) ++ wp) := hD
          refine j_iinc (k := 0) (lv' := [(4, .int (iI (i + 1))), (3, .int (iI (pk g kk * 48 + tt))), (0, .ref (q 28)), (1, .int (iI (kk))), (2, .int (iI (tt)))]) hx hb dX3_leavePost_70 hl rfl (by decide) rfl (fun ls hl => ?_)
          refine lv_goto (tgt := 13) hx hb dX3_leavePost_73 rfl ?_
          exact ih13 (i + 1) (s2 + 1) (up c2 i ((c2 i) - 1)) ls H locs (by omega) (by rw [sm_at (a := (pk g kk * 48 + tt)) h1.1]; first | (rw [show clo g cv i = 1 from bI_t (by omega)]; omega; done) | (rw [show clo g cv i = 0 from bI_f (by omega)]; omega; done)) (by rw [h3]; exact dcf_s h1.1) (by omega) (lv_sub hl [0, 1, 2, 3, 4] rfl) hP hD hS
  exact L13 _ (pk g kk * 48 + tt) sf cv ls s.heap [] (by omega) (by rw [Int.sub_self]; show sf = sf + 0; omega) (dcf_0 _ _).symm (Nat.lt_succ_self _) (lv_sub hl [0, 1, 2, 3, 4] rfl) hP hD hS

set_option maxHeartbeats 4000000 in
set_option maxRecDepth 100000 in
theorem c_X3_lift {l : Launch} {D : va_G} {C : Nat → ClassId} {q : Nat → Nat} {wp : va_W} {g : Int → Int} (hw : PlW q C wp g) (hg : Wf g) {pla cv : Int → Int} (hR : Ro3 g (SF g, pla, cv)) {kk : Int} (hk : 0 ≤ kk ∧ kk < g 3) : CV (S := Int × (Int → Int) × (Int → Int)) l yX3_lift wsX3_lift 3 68 D C [.ref (q 28), .int (iI (kk))] (wRo q C (SF g) pla cv ++ wp) (fun u => wRo q C (u.1) (u.2.1) (u.2.2) ++ wp) (fun u => Ro3 (lie g kk (-1)) u) := by
  obtain ⟨⟨k16, ln, nd, h16⟩, ⟨k17, f17, h17, e17⟩, ⟨k18, f18, h18, e18⟩, ⟨k19, f19, h19, e19⟩, ⟨k20, f20, h20, e20⟩, ⟨k21, f21, h21, e21⟩, ⟨k22, f22, h22, e22⟩, ⟨k23, f23, h23, e23⟩, ⟨k24, f24, h24, e24⟩, ⟨k25, f25, h25, e25⟩, ⟨k26, f26, h26, e26⟩, ⟨k27, f27, h27, e27⟩⟩ := id hw
  refine CV_of (cc := cX3_lift) (maxL := 4) (by decide) rfl (Nat.le_of_ble_eq_true rfl) ?_
  intro p e s m below meth c A Q ls hx hb hml hown hts hK hNW hA hl hP hD hS hret
  have hl : lv_has ls 4 [(0, .ref (q 28)), (1, .int (iI (kk)))] := hl
  have hro := RoW_mk hw hR
  have n := Wf_n hg
  have b := Wf_p hg hk.1 hk.2
  have pr := pk_rng hg hk.1 hk.2
  have at_ := Wf_at hg hk.1 (by omega)
  have e29 := hR.2.1 kk hk.1 (by omega)
  have e29 : pla kk = g (192 + 5 * kk) - 1 := e29
  refine lv_aload_n hx hb dX3_lift_0 rfl (lv_at hl 0 rfl) ?_
  refine va_get (D := D) (ci := 3) (v := .ref (q 29)) (C := RX3) (T := TX3) (N := 4) hx hb hts (by decide +kernel) hown hK hP 0 rfl rfl 1 (by decide) (hts (.fieldLink RX3 15 "BreakSetter$Roster" "places" "[I") (by decide +kernel)) (fun _ h9 => h9) rfl dX3_lift_1 ?_
  refine lv_iload_n hx hb dX3_lift_4 rfl (lv_at hl 1 rfl) ?_
  refine j_iald hx hb hK hP 1 1 rfl rfl ⟨by omega, by omega⟩ (Nat.le_of_ble_eq_true rfl) dX3_lift_5 ?_
  refine W_wen (congrArg iI e29) ?_
  refine lv_iconst (v := iI (-1)) hx hb dX3_lift_6 rfl ?_
  refine j_icmp_ne (tgt := 11) hx hb dX3_lift_7 rfl ⟨by omega, by omega⟩ ⟨by decide, by decide⟩ (fun c7 => ?_) (fun c7 => ?_)
  · skip
    refine lv_aload_n hx hb dX3_lift_11 rfl (lv_at hl 0 rfl) ?_
    refine lv_aload_n hx hb dX3_lift_12 rfl (lv_at hl 0 rfl) ?_
    refine lv_iload_n hx hb dX3_lift_13 rfl (lv_at hl 1 rfl) ?_
    refine CR_callV (As := [.int (iI (kk))]) (rest := [.ref (q 28)]) ⟨hx, hb, hml, hown, hts⟩ (c_X3_shortfallWithout hro hg hk) (cwV 1 hts gX3_lift_X3_shortfallWithout rfl rfl rfl (by decide +kernel) ⟨Nat.le_of_ble_eq_true rfl, Nat.le_of_ble_eq_true rfl⟩) (q0 := 0) rfl rfl rfl hK hNW hP rfl hl.1 rfl (Nat.le_of_ble_eq_true rfl) dX3_lift_14 ⟨Nat.zero_le _, Nat.zero_le _⟩ ?_
    refine va_put (D := D) (ci := 3) (v := .int (iI (SF (lie g kk (-1))))) (ty := .int) (C := RX3) (T := TX3) (N := 4) hx hb hts (by decide +kernel) tyX3 tyX3_ok nmX3 hown hK hP hD hS 0 rfl rfl 3 (by decide) (hts (.fieldLink RX3 42 "BreakSetter$Roster" "shortfall" "I") (by decide +kernel)) (fun _ h9 => h9) rfl (by decide +kernel) rfl rfl (Nat.le_of_ble_eq_true rfl) dX3_lift_17 (fun H locs hP hD hS => ?_)
    have hP : va_P D vwCl (wRo q C (SF (lie g kk (-1))) pla cv ++ wp) H := hP
    have hD : va_D A (wRo q C (SF (lie g kk (-1))) pla cv ++ wp) := hD
    refine lv_aload_n hx hb dX3_lift_20 rfl (lv_at hl 0 rfl) ?_
    refine va_get (D := D) (ci := 3) (v := .ref (q 16)) (C := RX3) (T := TX3) (N := 4) hx hb hts (by decide +kernel) hown hK hP 0 rfl rfl 0 (by decide) (hts (.fieldLink RX3 9 "BreakSetter$Roster" "plan" "LBreakSetter$Plan;") (by decide +kernel)) (fun _ h9 => h9) rfl dX3_lift_21 ?_
    refine lv_iload_n hx hb dX3_lift_24 rfl (lv_at hl 1 rfl) ?_
    refine lv_aload_n hx hb dX3_lift_25 rfl (lv_at hl 0 rfl) ?_
    refine va_get (D := D) (ci := 3) (v := .ref (q 29)) (C := RX3) (T := TX3) (N := 4) hx hb hts (by decide +kernel) hown hK hP 0 rfl rfl 1 (by decide) (hts (.fieldLink RX3 15 "BreakSetter$Roster" "places" "[I") (by decide +kernel)) (fun _ h9 => h9) rfl dX3_lift_26 ?_
    refine lv_iload_n hx hb dX3_lift_29 rfl (lv_at hl 1 rfl) ?_
    refine j_iald hx hb hK hP 1 1 rfl rfl ⟨by omega, by omega⟩ (Nat.le_of_ble_eq_true rfl) dX3_lift_30 ?_
    refine W_wen (congrArg iI e29) ?_
    refine CR_callV (As := [.int (iI (kk)), .int (iI (g (192 + 5 * kk) - 1))]) (rest := []) ⟨hx, hb, hml, hown, hts⟩ (c_X1_cellOfPause (PlW_add hw _) hg hk) (cwV 2 hts gX3_lift_X1_cellOfPause rfl rfl rfl (by decide +kernel) ⟨Nat.le_of_ble_eq_true rfl, Nat.le_of_ble_eq_true rfl⟩) (q0 := (k16 + 3)) h16 rfl rfl hK hNW hP rfl hl.1 rfl (Nat.le_of_ble_eq_true rfl) dX3_lift_31 ⟨Nat.zero_le _, Nat.zero_le _⟩ ?_
    refine lv_istore_n (lv' := [(2, .int (iI (pk g kk * 48 + (g (192 + 5 * kk) - 1)))), (0, .ref (q 28)), (1, .int (iI (kk)))]) hx hb dX3_lift_34 rfl hl (by decide) rfl (fun ls hl => ?_)
    refine lv_iload_n hx hb dX3_lift_35 rfl (lv_at hl 0 rfl) ?_
    refine lv_istore_n (lv' := [(3, .int (iI (pk g kk * 48 + (g (192 + 5 * kk) - 1)))), (2, .int (iI (pk g kk * 48 + (g (192 + 5 * kk) - 1)))), (0, .ref (q 28)), (1, .int (iI (kk)))]) hx hb dX3_lift_36 rfl hl (by decide) rfl (fun ls hl => ?_)
    have L37 : ∀ (n : Nat) (i : Int) (c2 : Int → Int) (ls : Array Slot) (H : Heap) (locs : List Loc), ((pk g kk * 48 + (g (192 + 5 * kk) - 1)) ≤ i ∧ i ≤ (pk g kk * 48 + (g (192 + 5 * kk) - 1)) + g (189 + 5 * kk)) → (c2 = icf cv (pk g kk * 48 + (g (192 + 5 * kk) - 1)) i) → (((pk g kk * 48 + (g (192 + 5 * kk) - 1)) + g (189 + 5 * kk) - i).toNat < n) → (lv_has ls 4 [(3, .int (iI (i))), (2, .int (iI (pk g kk * 48 + (g (192 + 5 * kk) - 1)))), (0, .ref (q 28)), (1, .int (iI (kk)))]) → (va_P D vwCl (wRo q C (SF (lie g kk (-1))) pla c2 ++ wp) H) → (va_D A (wRo q C (SF (lie g kk (-1))) pla c2 ++ wp)) → (va_S A s.heap H locs) → W p l e (rmN 3 68) s m ([.ref (q 28), .int (iI (kk))] : List Value).toArray below meth c H locs 0 0 Q (F0 m 37 ls []) := by
      intro n
      induction n with
      | zero => intro i c2 ls H locs h1 h3 hn; exact absurd hn (Nat.not_lt_zero _)
      | succ n ih37 =>
        intro i c2 ls H locs h1 h3 hn hl hP hD hS
        have hn37 := hn
        refine lv_iload_n hx hb dX3_lift_37 rfl (lv_at hl 0 rfl) ?_
        refine lv_iload_n hx hb dX3_lift_38 rfl (lv_at hl 1 rfl) ?_
        refine lv_aload_n hx hb dX3_lift_39 rfl (lv_at hl 2 rfl) ?_
        refine va_get (D := D) (ci := 3) (v := .ref (q 16)) (C := RX3) (T := TX3) (N := 4) hx hb hts (by decide +kernel) hown hK hP 0 rfl rfl 0 (by decide) (hts (.fieldLink RX3 9 "BreakSetter$Roster" "plan" "LBreakSetter$Plan;") (by decide +kernel)) (fun _ h9 => h9) rfl dX3_lift_40 ?_
        refine va_get (D := D) (ci := 1) (v := .ref (q 25)) (C := RX1) (T := TX1) (N := 17) hx hb hts (by decide +kernel) hown hK hP (k16 + 3) h16 rfl 14 (by decide) (hts (.fieldLink RX3 76 "BreakSetter$Plan" "pauseLong" "[I") (by decide +kernel)) (fun _ h9 => h9) rfl dX3_lift_43 ?_
        refine lv_iload_n hx hb dX3_lift_46 rfl (lv_at hl 3 rfl) ?_
        refine j_iald hx hb hK hP (k25 + 3) 1 h25 rfl ⟨by omega, by omega⟩ (Nat.le_of_ble_eq_true rfl) dX3_lift_47 ?_
        refine W_wen (y := iI (g (189 + 5 * kk))) (congrArg iI (e25 kk (by omega) (by omega))) ?_
        refine j_iadd hx hb dX3_lift_48 ?_
        refine j_icmp_ge (tgt := 68) hx hb dX3_lift_49 rfl ⟨by omega, by omega⟩ ⟨by omega, by omega⟩ (fun c49 => ?_) (fun c49 => ?_)
        · skip
          have e6 : i = (pk g kk * 48 + (g (192 + 5 * kk) - 1)) + g (189 + 5 * kk) := by omega
          subst h3
          subst e6
          have hl := lv_sub hl [1, 2, 3] rfl
          refine lv_aload_n hx hb dX3_lift_68 rfl (lv_at hl 1 rfl) ?_
          refine va_get (D := D) (ci := 3) (v := .ref (q 29)) (C := RX3) (T := TX3) (N := 4) hx hb hts (by decide +kernel) hown hK hP 0 rfl rfl 1 (by decide) (hts (.fieldLink RX3 15 "BreakSetter$Roster" "places" "[I") (by decide +kernel)) (fun _ h9 => h9) rfl dX3_lift_69 ?_
          refine lv_iload_n hx hb dX3_lift_72 rfl (lv_at hl 2 rfl) ?_
          refine lv_iconst (v := iI (-1)) hx hb dX3_lift_73 rfl ?_
          refine j_iast hx hb hK hP hD hS 1 1 rfl rfl ⟨by omega, by omega⟩ (Nat.le_of_ble_eq_true rfl) dX3_lift_74 (fun H locs hP hD hS => ?_)
          have hP : va_P D vwCl (wRo q C (SF (lie g kk (-1))) (up pla kk (-1)) (icf cv (pk g kk * 48 + (g (192 + 5 * kk) - 1)) ((pk g kk * 48 + (g (192 + 5 * kk) - 1)) + g (189 + 5 * kk))) ++ wp) H := hP
          have hD : va_D A (wRo q C (SF (lie g kk (-1))) (up pla kk (-1)) (icf cv (pk g kk * 48 + (g (192 + 5 * kk) - 1)) ((pk g kk * 48 + (g (192 + 5 * kk) - 1)) + g (189 + 5 * kk))) ++ wp) := hD
          exact hret H locs ls 75 (SF (lie g kk (-1)), up pla kk (-1), icf cv (pk g kk * 48 + (g (192 + 5 * kk) - 1)) ((pk g kk * 48 + (g (192 + 5 * kk) - 1)) + g (189 + 5 * kk))) dX3_lift_75 (Ro3_lift hg hk.1 hk.2 c7 hR) hP hD hS
        · skip
          refine lv_aload_n hx hb dX3_lift_52 rfl (lv_at hl 2 rfl) ?_
          refine va_get (D := D) (ci := 3) (v := .ref (q 30)) (C := RX3) (T := TX3) (N := 4) hx hb hts (by decide +kernel) hown hK hP 0 rfl rfl 2 (by decide) (hts (.fieldLink RX3 19 "BreakSetter$Roster" "cover" "[I") (by decide +kernel)) (fun _ h9 => h9) rfl dX3_lift_53 ?_
          refine lv_iload_n hx hb dX3_lift_56 rfl (lv_at hl 0 rfl) ?_
          refine lv_dup2_11 hx hb dX3_lift_57 rfl rfl ?_
          refine j_iald hx hb hK hP 2 1 rfl rfl ⟨by omega, by omega⟩ (Nat.le_of_ble_eq_true rfl) dX3_lift_58 ?_
          refine lv_iconst (v := iI (1)) hx hb dX3_lift_59 rfl ?_
          refine j_iadd hx hb dX3_lift_60 ?_
          refine j_iast hx hb hK hP hD hS 2 1 rfl rfl ⟨by omega, by omega⟩ (Nat.le_of_ble_eq_true rfl) dX3_lift_61 (fun H locs hP hD hS => ?_)
          have hP : va_P D vwCl (wRo q C (SF (lie g kk (-1))) pla (up c2 i ((c2 i) + 1)) ++ wp) H := hP
          have hD : va_D A (wRo q C (SF (lie g kk (-1))) pla (up c2 i ((c2 i) + 1)) ++ wp) := hD
          refine j_iinc (k := 0) (lv' := [(3, .int (iI (i + 1))), (2, .int (iI (pk g kk * 48 + (g (192 + 5 * kk) - 1)))), (0, .ref (q 28)), (1, .int (iI (kk)))]) hx hb dX3_lift_62 hl rfl (by decide) rfl (fun ls hl => ?_)
          refine lv_goto (tgt := 37) hx hb dX3_lift_65 rfl ?_
          exact ih37 (i + 1) (up c2 i ((c2 i) + 1)) ls H locs (by omega) (by rw [h3]; exact icf_s h1.1) (by omega) (lv_sub hl [0, 1, 2, 3] rfl) hP hD hS
    exact L37 _ (pk g kk * 48 + (g (192 + 5 * kk) - 1)) cv ls H locs (by omega) (icf_0 _ _).symm (Nat.lt_succ_self _) (lv_sub hl [0, 1, 2, 3] rfl) hP hD hS
  · skip
    exact hret s.heap [] ls 10 (SF g, pla, cv) dX3_lift_10 (by rw [lie_idz (by omega)]; exact hR) hP hD hS

set_option maxHeartbeats 4000000 in
set_option maxRecDepth 100000 in
theorem c_X3_moveTo {l : Launch} {D : va_G} {C : Nat → ClassId} {q : Nat → Nat} {wp : va_W} {g : Int → Int} (hw : PlW q C wp g) (hg : Wf g) {pla cv : Int → Int} (hR : Ro3 g (SF g, pla, cv)) {kk tt : Int} (hk : 0 ≤ kk ∧ kk < g 3) (ht : g (190 + 5 * kk) ≤ tt ∧ tt ≤ g (191 + 5 * kk)) : CV (S := Int × (Int → Int) × (Int → Int)) l yX3_moveTo wsX3_moveTo 4 91 D C [.ref (q 28), .int (iI (kk)), .int (iI (tt))] (wRo q C (SF g) pla cv ++ wp) (fun u => wRo q C (u.1) (u.2.1) (u.2.2) ++ wp) (fun u => Ro3 (lie g kk tt) u) := by
  obtain ⟨⟨k16, ln, nd, h16⟩, ⟨k17, f17, h17, e17⟩, ⟨k18, f18, h18, e18⟩, ⟨k19, f19, h19, e19⟩, ⟨k20, f20, h20, e20⟩, ⟨k21, f21, h21, e21⟩, ⟨k22, f22, h22, e22⟩, ⟨k23, f23, h23, e23⟩, ⟨k24, f24, h24, e24⟩, ⟨k25, f25, h25, e25⟩, ⟨k26, f26, h26, e26⟩, ⟨k27, f27, h27, e27⟩⟩ := id hw
  refine CV_of (cc := cX3_moveTo) (maxL := 3) (by decide) rfl (Nat.le_of_ble_eq_true rfl) ?_
  intro p e s m below meth c A Q ls hx hb hml hown hts hK hNW hA hl hP hD hS hret
  have hl : lv_has ls 3 [(0, .ref (q 28)), (1, .int (iI (kk))), (2, .int (iI (tt)))] := hl
  have n := Wf_n hg
  have b := Wf_p hg hk.1 hk.2
  have pr := pk_rng hg hk.1 hk.2
  have wg := Wf_lie hg hk.1 hk.2 (t := -1) (Or.inl rfl)
  refine lv_aload_n hx hb dX3_moveTo_0 rfl (lv_at hl 0 rfl) ?_
  refine lv_iload_n hx hb dX3_moveTo_1 rfl (lv_at hl 1 rfl) ?_
  refine CV_callV0 (As := [.int (iI (kk))]) (rest := []) ⟨hx, hb, hml, hown, hts⟩ (c_X3_lift hw hg hR hk) (cwV 1 hts gX3_moveTo_X3_lift rfl rfl rfl (by decide +kernel) ⟨Nat.le_of_ble_eq_true rfl, Nat.le_of_ble_eq_true rfl⟩) (q0 := 0) rfl rfl rfl hK hNW hP hD hS hA rfl hl.1 rfl (Nat.le_of_ble_eq_true rfl) dX3_moveTo_2 ⟨Nat.zero_le _, Nat.zero_le _⟩ (fun ⟨s1, p1, c1⟩ H locs hw9 hP hD hS => ?_)
  have hP : va_P D vwCl (wRo q C s1 p1 c1 ++ wp) H := hP
  have hD : va_D A (wRo q C s1 p1 c1 ++ wp) := hD
  have hR1 : Ro3 (lie g kk (-1)) (s1, p1, c1) := hw9
  obtain ⟨r1, r2, r3⟩ := id hR1
  refine lv_aload_n hx hb dX3_moveTo_5 rfl (lv_at hl 0 rfl) ?_
  refine lv_iload_n hx hb dX3_moveTo_6 rfl (lv_at hl 1 rfl) ?_
  refine lv_iload_n hx hb dX3_moveTo_7 rfl (lv_at hl 2 rfl) ?_
  refine CV_callV0 (As := [.int (iI (kk)), .int (iI (tt))]) (rest := []) ⟨hx, hb, hml, hown, hts⟩ (c_X3_leavePost hw hg (fun c c0 c1x => by have r := cvc_rng wg c; have e : c1 c = cvc (lie g kk (-1)) c := r3 c c0 c1x; omega) hk ⟨by omega, by omega⟩) (cwV 2 hts gX3_moveTo_X3_leavePost rfl rfl rfl (by decide +kernel) ⟨Nat.le_of_ble_eq_true rfl, Nat.le_of_ble_eq_true rfl⟩) (q0 := 0) rfl rfl rfl hK hNW hP hD hS hA rfl hl.1 rfl (Nat.le_of_ble_eq_true rfl) dX3_moveTo_8 ⟨Nat.zero_le _, Nat.zero_le _⟩ (fun u H locs hw9 hP hD hS => ?_)
  have hP : va_P D vwCl (wRo q C (s1 + sm (fun j => clo g c1 ((pk g kk * 48 + tt) + j)) (g (189 + 5 * kk)).toNat) p1 (dcf c1 (pk g kk * 48 + tt) ((pk g kk * 48 + tt) + g (189 + 5 * kk))) ++ wp) H := hP
  have hD : va_D A (wRo q C (s1 + sm (fun j => clo g c1 ((pk g kk * 48 + tt) + j)) (g (189 + 5 * kk)).toNat) p1 (dcf c1 (pk g kk * 48 + tt) ((pk g kk * 48 + tt) + g (189 + 5 * kk))) ++ wp) := hD
  refine lv_aload_n hx hb dX3_moveTo_11 rfl (lv_at hl 0 rfl) ?_
  refine va_get (D := D) (ci := 3) (v := .ref (q 29)) (C := RX3) (T := TX3) (N := 4) hx hb hts (by decide +kernel) hown hK hP 0 rfl rfl 1 (by decide) (hts (.fieldLink RX3 15 "BreakSetter$Roster" "places" "[I") (by decide +kernel)) (fun _ h9 => h9) rfl dX3_moveTo_12 ?_
  refine lv_iload_n hx hb dX3_moveTo_15 rfl (lv_at hl 1 rfl) ?_
  refine lv_iload_n hx hb dX3_moveTo_16 rfl (lv_at hl 2 rfl) ?_
  refine j_iast hx hb hK hP hD hS 1 1 rfl rfl ⟨by omega, by omega⟩ (Nat.le_of_ble_eq_true rfl) dX3_moveTo_17 (fun H locs hP hD hS => ?_)
  have hP : va_P D vwCl (wRo q C (s1 + sm (fun j => clo g c1 ((pk g kk * 48 + tt) + j)) (g (189 + 5 * kk)).toNat) (up p1 kk tt) (dcf c1 (pk g kk * 48 + tt) ((pk g kk * 48 + tt) + g (189 + 5 * kk))) ++ wp) H := hP
  have hD : va_D A (wRo q C (s1 + sm (fun j => clo g c1 ((pk g kk * 48 + tt) + j)) (g (189 + 5 * kk)).toNat) (up p1 kk tt) (dcf c1 (pk g kk * 48 + tt) ((pk g kk * 48 + tt) + g (189 + 5 * kk))) ++ wp) := hD
  exact hret H locs ls 18 (s1 + sm (fun j => clo g c1 ((pk g kk * 48 + tt) + j)) (g (189 + 5 * kk)).toNat, up p1 kk tt, dcf c1 (pk g kk * 48 + tt) ((pk g kk * 48 + tt) + g (189 + 5 * kk))) dX3_moveTo_18 (Ro3_move hg hk ht hR1) hP hD hS
