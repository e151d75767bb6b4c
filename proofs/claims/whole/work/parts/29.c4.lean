theorem ShW_mk {q : Nat → Nat} {C : Nat → ClassId} {wp : va_W} {g : Int → Int} (h : PlW q C wp g) {sf : Int} {pla cv : Int → Int} : ShW q C (wRo q C sf pla cv ++ wp) g cv := ⟨PlW_add h _, ⟨0, sf, rfl⟩, ⟨2, rfl⟩⟩
def wA1 (a : Nat) (C : Nat → ClassId) (n : Nat) (f : Int → Int) : va_W := [(a, .inl (C 1, n, .inl (aI f)))]
def flf (f : Int → Int) (v i : Int) : Int → Int := fun k => if 0 ≤ k ∧ k < i then v else f k
theorem flf_0 (f : Int → Int) (v : Int) : flf f v 0 = f := by
  funext k
  unfold flf
  rw [if_neg (by omega)]
theorem flf_s {f : Int → Int} {v i : Int} (h : 0 ≤ i) : up (flf f v i) i v = flf f v (i + 1) := by
  funext k
  by_cases e : k = i
  · subst e
    rw [up_s]
    unfold flf
    rw [if_pos (by omega)]
  · rw [up_n _ _ e]
    unfold flf
    by_cases x : 0 ≤ k ∧ k < i
    · rw [if_pos x, if_pos (by omega)]
    · rw [if_neg x, if_neg (by omega)]
set_option maxHeartbeats 4000000 in
set_option maxRecDepth 100000 in
theorem c_fill24 {l : Launch} {D : va_G} {C : Nat → ClassId} {a : Nat} {f : Int → Int} {vv : Int} : CV (S := Unit) l yJ7_fill_53178 wsJ7_fill_53178 0 0 D C [.ref a, .int (iI (vv))] (wA1 a C 24 f) (fun _ => wA1 a C 24 (flf f vv 24)) (fun _ => True) := by
  refine CV_of (cc := cJ7_fill_53178) (maxL := 4) (by decide) rfl (Nat.le_of_ble_eq_true rfl) ?_
  intro p e s m below meth c A Q ls hx hb hml hown hts hK hNW hA hl hP hD hS hret
  have hl : lv_has ls 4 [(0, .ref a), (1, .int (iI (vv)))] := hl
  refine lv_iconst (v := iI (0)) hx hb dJ7_fill_53178_0 rfl ?_
  refine lv_istore_n (lv' := [(2, .int (iI (0))), (0, .ref a), (1, .int (iI (vv)))]) hx hb dJ7_fill_53178_1 rfl hl (by decide) rfl (fun ls hl => ?_)
  refine lv_aload_n hx hb dJ7_fill_53178_2 rfl (lv_at hl 1 rfl) ?_
  refine va_alen hx hb hK hP 0 1 rfl rfl (v := iI (24)) rfl dJ7_fill_53178_3 ?_
  refine lv_istore_n (lv' := [(3, .int (iI (24))), (2, .int (iI (0))), (0, .ref a), (1, .int (iI (vv)))]) hx hb dJ7_fill_53178_4 rfl hl (by decide) rfl (fun ls hl => ?_)
  have L5 : ∀ (n : Nat) (i : Int) (f2 : Int → Int) (ls : Array Slot) (H : Heap) (locs : List Loc), (0 ≤ i ∧ i ≤ 24) → (f2 = flf f vv i) → ((24 - i).toNat < n) → (lv_has ls 4 [(3, .int (iI (24))), (2, .int (iI (i))), (0, .ref a), (1, .int (iI (vv)))]) → (va_P D vwCl (wA1 a C 24 f2) H) → (va_D A (wA1 a C 24 f2)) → (va_S A s.heap H locs) → W p l e (rmN 0 0) s m ([.ref a, .int (iI (vv))] : List Value).toArray below meth c H locs 0 0 Q (F0 m 5 ls []) := by
    intro n
    induction n with
    | zero => intro i f2 ls H locs h1 h3 hn; exact absurd hn (Nat.not_lt_zero _)
    | succ n ih5 =>
      intro i f2 ls H locs h1 h3 hn hl hP hD hS
      have hn5 := hn
      refine lv_iload_n hx hb dJ7_fill_53178_5 rfl (lv_at hl 1 rfl) ?_
      refine lv_iload_n hx hb dJ7_fill_53178_6 rfl (lv_at hl 0 rfl) ?_
      refine j_icmp_ge (tgt := 20) hx hb dJ7_fill_53178_7 rfl ⟨by omega, by omega⟩ ⟨by decide, by decide⟩ (fun c7 => ?_) (fun c7 => ?_)
      · skip
        have e6 : i = 24 := by omega
        subst h3
        subst e6
        exact hret H locs ls 20 () dJ7_fill_53178_20 trivial hP hD hS
      · skip
        refine lv_aload_n hx hb dJ7_fill_53178_10 rfl (lv_at hl 2 rfl) ?_
        refine lv_iload_n hx hb dJ7_fill_53178_11 rfl (lv_at hl 1 rfl) ?_
        refine lv_iload_n hx hb dJ7_fill_53178_12 rfl (lv_at hl 3 rfl) ?_
        refine j_iast hx hb hK hP hD hS 0 1 rfl rfl ⟨by omega, by omega⟩ (Nat.le_of_ble_eq_true rfl) dJ7_fill_53178_13 (fun H locs hP hD hS => ?_)
        have hP : va_P D vwCl (wA1 a C 24 (up f2 i vv)) H := hP
        have hD : va_D A (wA1 a C 24 (up f2 i vv)) := hD
        refine j_iinc (k := 1) (lv' := [(2, .int (iI (i + 1))), (3, .int (iI (24))), (0, .ref a), (1, .int (iI (vv)))]) hx hb dJ7_fill_53178_14 hl rfl (by decide) rfl (fun ls hl => ?_)
        refine lv_goto (tgt := 5) hx hb dJ7_fill_53178_17 rfl ?_
        exact ih5 (i + 1) (up f2 i vv) ls H locs (by omega) (by rw [h3]; exact flf_s h1.1) (by omega) (lv_sub hl [1, 0, 2, 3] rfl) hP hD hS
  exact L5 _ 0 f ls s.heap [] (by omega) (flf_0 _ _).symm (Nat.lt_succ_self _) (lv_sub hl [0, 1, 2, 3] rfl) hP hD hS

set_option maxHeartbeats 4000000 in
set_option maxRecDepth 100000 in
theorem c_fill144 {l : Launch} {D : va_G} {C : Nat → ClassId} {a : Nat} {f : Int → Int} {vv : Int} : CV (S := Unit) l yJ7_fill_53178 wsJ7_fill_53178 0 0 D C [.ref a, .int (iI (vv))] (wA1 a C 144 f) (fun _ => wA1 a C 144 (flf f vv 144)) (fun _ => True) := by
  refine CV_of (cc := cJ7_fill_53178) (maxL := 4) (by decide) rfl (Nat.le_of_ble_eq_true rfl) ?_
  intro p e s m below meth c A Q ls hx hb hml hown hts hK hNW hA hl hP hD hS hret
  have hl : lv_has ls 4 [(0, .ref a), (1, .int (iI (vv)))] := hl
  refine lv_iconst (v := iI (0)) hx hb dJ7_fill_53178_0 rfl ?_
  refine lv_istore_n (lv' := [(2, .int (iI (0))), (0, .ref a), (1, .int (iI (vv)))]) hx hb dJ7_fill_53178_1 rfl hl (by decide) rfl (fun ls hl => ?_)
  refine lv_aload_n hx hb dJ7_fill_53178_2 rfl (lv_at hl 1 rfl) ?_
  refine va_alen hx hb hK hP 0 1 rfl rfl (v := iI (144)) rfl dJ7_fill_53178_3 ?_
  refine lv_istore_n (lv' := [(3, .int (iI (144))), (2, .int (iI (0))), (0, .ref a), (1, .int (iI (vv)))]) hx hb dJ7_fill_53178_4 rfl hl (by decide) rfl (fun ls hl => ?_)
  have L5 : ∀ (n : Nat) (i : Int) (f2 : Int → Int) (ls : Array Slot) (H : Heap) (locs : List Loc), (0 ≤ i ∧ i ≤ 144) → (f2 = flf f vv i) → ((144 - i).toNat < n) → (lv_has ls 4 [(3, .int (iI (144))), (2, .int (iI (i))), (0, .ref a), (1, .int (iI (vv)))]) → (va_P D vwCl (wA1 a C 144 f2) H) → (va_D A (wA1 a C 144 f2)) → (va_S A s.heap H locs) → W p l e (rmN 0 0) s m ([.ref a, .int (iI (vv))] : List Value).toArray below meth c H locs 0 0 Q (F0 m 5 ls []) := by
    intro n
    induction n with
    | zero => intro i f2 ls H locs h1 h3 hn; exact absurd hn (Nat.not_lt_zero _)
    | succ n ih5 =>
      intro i f2 ls H locs h1 h3 hn hl hP hD hS
      have hn5 := hn
      refine lv_iload_n hx hb dJ7_fill_53178_5 rfl (lv_at hl 1 rfl) ?_
      refine lv_iload_n hx hb dJ7_fill_53178_6 rfl (lv_at hl 0 rfl) ?_
      refine j_icmp_ge (tgt := 20) hx hb dJ7_fill_53178_7 rfl ⟨by omega, by omega⟩ ⟨by decide, by decide⟩ (fun c7 => ?_) (fun c7 => ?_)
      · skip
        have e6 : i = 144 := by omega
        subst h3
        subst e6
        exact hret H locs ls 20 () dJ7_fill_53178_20 trivial hP hD hS
      · skip
        refine lv_aload_n hx hb dJ7_fill_53178_10 rfl (lv_at hl 2 rfl) ?_
        refine lv_iload_n hx hb dJ7_fill_53178_11 rfl (lv_at hl 1 rfl) ?_
        refine lv_iload_n hx hb dJ7_fill_53178_12 rfl (lv_at hl 3 rfl) ?_
        refine j_iast hx hb hK hP hD hS 0 1 rfl rfl ⟨by omega, by omega⟩ (Nat.le_of_ble_eq_true rfl) dJ7_fill_53178_13 (fun H locs hP hD hS => ?_)
        have hP : va_P D vwCl (wA1 a C 144 (up f2 i vv)) H := hP
        have hD : va_D A (wA1 a C 144 (up f2 i vv)) := hD
        refine j_iinc (k := 1) (lv' := [(2, .int (iI (i + 1))), (3, .int (iI (144))), (0, .ref a), (1, .int (iI (vv)))]) hx hb dJ7_fill_53178_14 hl rfl (by decide) rfl (fun ls hl => ?_)
        refine lv_goto (tgt := 5) hx hb dJ7_fill_53178_17 rfl ?_
        exact ih5 (i + 1) (up f2 i vv) ls H locs (by omega) (by rw [h3]; exact flf_s h1.1) (by omega) (lv_sub hl [1, 0, 2, 3] rfl) hP hD hS
  exact L5 _ 0 f ls s.heap [] (by omega) (flf_0 _ _).symm (Nat.lt_succ_self _) (lv_sub hl [0, 1, 2, 3] rfl) hP hD hS

set_option maxHeartbeats 4000000 in
set_option maxRecDepth 100000 in
theorem c_X3_recount {l : Launch} {D : va_G} {C : Nat → ClassId} {q : Nat → Nat} {wp : va_W} {g : Int → Int} (hw : PlW q C wp g) (hg : Wf g) {sf : Int} {pla cv : Int → Int} (hpl : ∀ k : Int, 0 ≤ k → k < 24 → pla k = g (192 + 5 * k) - 1) : CV (S := Int × (Int → Int) × (Int → Int)) l yX3_recount wsX3_recount 3 67 D C [.ref (q 28)] (wRo q C sf pla cv ++ wp) (fun u => wRo q C (u.1) (u.2.1) (u.2.2) ++ wp) (fun u => Ro3 g u) := by
  obtain ⟨⟨k16, ln, nd, h16⟩, ⟨k17, f17, h17, e17⟩, ⟨k18, f18, h18, e18⟩, ⟨k19, f19, h19, e19⟩, ⟨k20, f20, h20, e20⟩, ⟨k21, f21, h21, e21⟩, ⟨k22, f22, h22, e22⟩, ⟨k23, f23, h23, e23⟩, ⟨k24, f24, h24, e24⟩, ⟨k25, f25, h25, e25⟩, ⟨k26, f26, h26, e26⟩, ⟨k27, f27, h27, e27⟩⟩ := id hw
  refine CV_of (cc := cX3_recount) (maxL := 2) (by decide) rfl (Nat.le_of_ble_eq_true rfl) ?_
  intro p e s m below meth c A Q ls hx hb hml hown hts hK hNW hA hl hP hD hS hret
  have hl : lv_has ls 2 [(0, .ref (q 28))] := hl
  have n := Wf_n hg
  refine lv_aload_n hx hb dX3_recount_0 rfl (lv_at hl 0 rfl) ?_
  refine va_get (D := D) (ci := 3) (v := .ref (q 16)) (C := RX3) (T := TX3) (N := 4) hx hb hts (by decide +kernel) hown hK hP 0 rfl rfl 0 (by decide) (hts (.fieldLink RX3 9 "BreakSetter$Roster" "plan" "LBreakSetter$Plan;") (by decide +kernel)) (fun _ h9 => h9) rfl dX3_recount_1 ?_
  refine va_get (D := D) (ci := 1) (v := .ref (q 18)) (C := RX1) (T := TX1) (N := 17) hx hb hts (by decide +kernel) hown hK hP (k16 + 3) h16 rfl 7 (by decide) (hts (.fieldLink RX3 31 "BreakSetter$Plan" "duty" "[I") (by decide +kernel)) (fun _ h9 => h9) rfl dX3_recount_4 ?_
  refine lv_iconst (v := iI (0)) hx hb dX3_recount_7 rfl ?_
  refine lv_aload_n hx hb dX3_recount_8 rfl (lv_at hl 0 rfl) ?_
  refine va_get (D := D) (ci := 3) (v := .ref (q 30)) (C := RX3) (T := TX3) (N := 4) hx hb hts (by decide +kernel) hown hK hP 0 rfl rfl 2 (by decide) (hts (.fieldLink RX3 19 "BreakSetter$Roster" "cover" "[I") (by decide +kernel)) (fun _ h9 => h9) rfl dX3_recount_9 ?_
  refine lv_iconst (v := iI (0)) hx hb dX3_recount_12 rfl ?_
  refine lv_sipush (v := iI (144)) hx hb dX3_recount_13 (by decide) ?_
  refine j_copy hx hb (by rw [hml]; exact hl.1.symm) hown (hts (.methodLink RX3 36 arraycopyName) (by decide +kernel)) (hts (.native arraycopyName) (by decide +kernel)) (hts (.static arraycopyName) (by decide +kernel)) (hts (.initialized "java/lang/System") (by decide +kernel)) hK hP hD hS (k18 + 3) 2 h18 rfl (tt := true) rfl ⟨by omega, by omega, by omega⟩ ⟨by omega, by omega⟩ (by decide) (by decide) (Nat.le_of_ble_eq_true rfl) (Nat.le_of_ble_eq_true rfl) dX3_recount_16 (fun H locs hP hD hS => ?_)
  have hP : va_P D vwCl (wRo q C sf pla (cpy f18 cv 0 0 144) ++ wp) H := hP
  have hD : va_D A (wRo q C sf pla (cpy f18 cv 0 0 144) ++ wp) := hD
  obtain ⟨c0, hc0⟩ : ∃ c0, c0 = cpy f18 cv 0 0 144 := ⟨_, rfl⟩
  rw [← hc0] at hP hD
  have ec : ∀ c : Int, 0 ≤ c → c < 144 → c0 c = dtc g c := fun c a b => by rw [hc0]; unfold cpy; rw [if_pos ⟨by omega, by omega⟩, show (0 : Int) + (c - 0) = c by omega]; exact e18 c a b
  refine lv_aload_n hx hb dX3_recount_19 rfl (lv_at hl 0 rfl) ?_
  refine lv_iconst (v := iI (0)) hx hb dX3_recount_20 rfl ?_
  refine va_put (D := D) (ci := 3) (v := .int (iI (0))) (ty := .int) (C := RX3) (T := TX3) (N := 4) hx hb hts (by decide +kernel) tyX3 tyX3_ok nmX3 hown hK hP hD hS 0 rfl rfl 3 (by decide) (hts (.fieldLink RX3 42 "BreakSetter$Roster" "shortfall" "I") (by decide +kernel)) (fun _ h9 => h9) rfl (by decide +kernel) rfl rfl (Nat.le_of_ble_eq_true rfl) dX3_recount_21 (fun H locs hP hD hS => ?_)
  have hP : va_P D vwCl (wRo q C 0 pla c0 ++ wp) H := hP
  have hD : va_D A (wRo q C 0 pla c0 ++ wp) := hD
  refine lv_iconst (v := iI (0)) hx hb dX3_recount_24 rfl ?_
  refine lv_istore_n (lv' := [(1, .int (iI (0))), (0, .ref (q 28))]) hx hb dX3_recount_25 rfl hl (by decide) rfl (fun ls hl => ?_)
  have L26 : ∀ (n : Nat) (i : Int) (s2 : Int) (ls : Array Slot) (H : Heap) (locs : List Loc), (0 ≤ i ∧ i ≤ 144) → (s2 = smI (fun c => max (g (4 + c) - c0 c) 0) i) → ((144 - i).toNat < n) → (lv_has ls 2 [(1, .int (iI (i))), (0, .ref (q 28))]) → (va_P D vwCl (wRo q C s2 pla c0 ++ wp) H) → (va_D A (wRo q C s2 pla c0 ++ wp)) → (va_S A s.heap H locs) → W p l e (rmN 3 67) s m ([.ref (q 28)] : List Value).toArray below meth c H locs 0 0 Q (F0 m 26 ls []) := by
    intro n
    induction n with
    | zero => intro i s2 ls H locs h1 h2 hn; exact absurd hn (Nat.not_lt_zero _)
    | succ n ih26 =>
      intro i s2 ls H locs h1 h2 hn hl hP hD hS
      have hn26 := hn
      refine lv_iload_n hx hb dX3_recount_26 rfl (lv_at hl 0 rfl) ?_
      refine lv_sipush (v := iI (144)) hx hb dX3_recount_27 (by decide) ?_
      refine j_icmp_ge (tgt := 53) hx hb dX3_recount_30 rfl ⟨by omega, by omega⟩ ⟨by decide, by decide⟩ (fun c30 => ?_) (fun c30 => ?_)
      · skip
        refine lv_iconst (v := iI (0)) hx hb dX3_recount_53 rfl ?_
        refine lv_istore_n (lv' := [(1, .int (iI (0))), (0, .ref (q 28))]) hx hb dX3_recount_54 rfl hl (by decide) rfl (fun ls hl => ?_)
        have L55 : ∀ (n : Nat) (i : Int) (s3 : Int) (c3 : Int → Int) (ls : Array Slot) (H : Heap) (locs : List Loc), (0 ≤ i ∧ i ≤ g 3) → (s3 = SF (tr g i)) → (∀ c : Int, 0 ≤ c → c < 144 → c3 c = cvc (tr g i) c) → ((g 3 - i).toNat < n) → (lv_has ls 2 [(1, .int (iI (i))), (0, .ref (q 28))]) → (va_P D vwCl (wRo q C s3 pla c3 ++ wp) H) → (va_D A (wRo q C s3 pla c3 ++ wp)) → (va_S A s.heap H locs) → W p l e (rmN 3 67) s m ([.ref (q 28)] : List Value).toArray below meth c H locs 0 0 Q (F0 m 55 ls []) := by
          intro n
          induction n with
          | zero => intro i s3 c3 ls H locs g1 g2 g3 hn; exact absurd hn (Nat.not_lt_zero _)
          | succ n ih55 =>
            intro i s3 c3 ls H locs g1 g2 g3 hn hl hP hD hS
            have hn55 := hn
            have wt := Wf_tr hg (i := i) g1.1
            refine lv_iload_n hx hb dX3_recount_55 rfl (lv_at hl 0 rfl) ?_
            refine lv_aload_n hx hb dX3_recount_56 rfl (lv_at hl 1 rfl) ?_
            refine va_get (D := D) (ci := 3) (v := .ref (q 16)) (C := RX3) (T := TX3) (N := 4) hx hb hts (by decide +kernel) hown hK hP 0 rfl rfl 0 (by decide) (hts (.fieldLink RX3 9 "BreakSetter$Roster" "plan" "LBreakSetter$Plan;") (by decide +kernel)) (fun _ h9 => h9) rfl dX3_recount_57 ?_
            refine va_get (D := D) (ci := 1) (v := .int (iI (g 3))) (C := RX1) (T := TX1) (N := 17) hx hb hts (by decide +kernel) hown hK hP (k16 + 3) h16 rfl 5 (by decide) (hts (.fieldLink RX3 50 "BreakSetter$Plan" "pauses" "I") (by decide +kernel)) (fun _ h9 => h9) rfl dX3_recount_60 ?_
            refine j_icmp_ge (tgt := 93) hx hb dX3_recount_63 rfl ⟨by omega, by omega⟩ ⟨by omega, by omega⟩ (fun c63 => ?_) (fun c63 => ?_)
            · skip
              exact hret H locs ls 93 (s3, pla, c3) dX3_recount_93 ⟨by show s3 = SF g; rw [g2, show i = g 3 by omega, tr_full hg], hpl, fun c a b => by show c3 c = cvc g c; rw [g3 c a b, show i = g 3 by omega, tr_full hg]⟩ hP hD hS
            · skip
              have b := Wf_p hg (k := i) (by omega) (by omega)
              have at_ := Wf_at hg (k := i) (by omega) (by omega)
              have nx := tr_next hg (i := i) (by omega) (by omega) g3
              refine lv_aload_n hx hb dX3_recount_66 rfl (lv_at hl 1 rfl) ?_
              refine va_get (D := D) (ci := 3) (v := .ref (q 29)) (C := RX3) (T := TX3) (N := 4) hx hb hts (by decide +kernel) hown hK hP 0 rfl rfl 1 (by decide) (hts (.fieldLink RX3 15 "BreakSetter$Roster" "places" "[I") (by decide +kernel)) (fun _ h9 => h9) rfl dX3_recount_67 ?_
              refine lv_iload_n hx hb dX3_recount_70 rfl (lv_at hl 0 rfl) ?_
              refine j_iald hx hb hK hP 1 1 rfl rfl ⟨by omega, by omega⟩ (Nat.le_of_ble_eq_true rfl) dX3_recount_71 ?_
              refine W_wen (congrArg iI (hpl i (by omega) (by omega))) ?_
              refine lv_iconst (v := iI (-1)) hx hb dX3_recount_72 rfl ?_
              refine j_icmp_eq (tgt := 87) hx hb dX3_recount_73 rfl ⟨by omega, by omega⟩ ⟨by decide, by decide⟩ (fun c73 => ?_) (fun c73 => ?_)
              · skip
                refine j_iinc (k := 0) (lv' := [(1, .int (iI (i + 1))), (0, .ref (q 28))]) hx hb dX3_recount_87 hl rfl (by decide) rfl (fun ls hl => ?_)
                refine lv_goto (tgt := 55) hx hb dX3_recount_90 rfl ?_
                exact ih55 (i + 1) s3 c3 ls H locs (by omega) (by first | (rw [nx.1 c73]; exact g2; done) | (rw [(nx.2 c73).1, ← g2]; done)) (by first | (rw [nx.1 c73]; exact g3; done) | (exact (nx.2 c73).2; done)) (by omega) (lv_sub hl [0, 1] rfl) hP hD hS
              · skip
                refine lv_aload_n hx hb dX3_recount_76 rfl (lv_at hl 1 rfl) ?_
                refine lv_iload_n hx hb dX3_recount_77 rfl (lv_at hl 0 rfl) ?_
                refine lv_aload_n hx hb dX3_recount_78 rfl (lv_at hl 1 rfl) ?_
                refine va_get (D := D) (ci := 3) (v := .ref (q 29)) (C := RX3) (T := TX3) (N := 4) hx hb hts (by decide +kernel) hown hK hP 0 rfl rfl 1 (by decide) (hts (.fieldLink RX3 15 "BreakSetter$Roster" "places" "[I") (by decide +kernel)) (fun _ h9 => h9) rfl dX3_recount_79 ?_
                refine lv_iload_n hx hb dX3_recount_82 rfl (lv_at hl 0 rfl) ?_
                refine j_iald hx hb hK hP 1 1 rfl rfl ⟨by omega, by omega⟩ (Nat.le_of_ble_eq_true rfl) dX3_recount_83 ?_
                refine W_wen (congrArg iI (hpl i (by omega) (by omega))) ?_
                refine CV_callV0 (As := [.int (iI (i)), .int (iI (g (192 + 5 * i) - 1))]) (rest := []) ⟨hx, hb, hml, hown, hts⟩ (c_X3_leavePost hw hg (fun c a b => by have r := cvc_rng wt c; have e := g3 c a b; omega) ⟨by omega, by omega⟩ ⟨by omega, by omega⟩) (cwV 2 hts gX3_recount_X3_leavePost rfl rfl rfl (by decide +kernel) ⟨Nat.le_of_ble_eq_true rfl, Nat.le_of_ble_eq_true rfl⟩) (q0 := 0) rfl rfl rfl hK hNW hP hD hS hA rfl hl.1 rfl (Nat.le_of_ble_eq_true rfl) dX3_recount_84 ⟨Nat.zero_le _, Nat.zero_le _⟩ (fun u H locs hw9 hP hD hS => ?_)
                have hP : va_P D vwCl (wRo q C (s3 + sm (fun j => clo g c3 ((pk g i * 48 + (g (192 + 5 * i) - 1)) + j)) (g (189 + 5 * i)).toNat) pla (dcf c3 (pk g i * 48 + (g (192 + 5 * i) - 1)) ((pk g i * 48 + (g (192 + 5 * i) - 1)) + g (189 + 5 * i))) ++ wp) H := hP
                have hD : va_D A (wRo q C (s3 + sm (fun j => clo g c3 ((pk g i * 48 + (g (192 + 5 * i) - 1)) + j)) (g (189 + 5 * i)).toNat) pla (dcf c3 (pk g i * 48 + (g (192 + 5 * i) - 1)) ((pk g i * 48 + (g (192 + 5 * i) - 1)) + g (189 + 5 * i))) ++ wp) := hD
                refine j_iinc (k := 0) (lv' := [(1, .int (iI (i + 1))), (0, .ref (q 28))]) hx hb dX3_recount_87 hl rfl (by decide) rfl (fun ls hl => ?_)
                refine lv_goto (tgt := 55) hx hb dX3_recount_90 rfl ?_
                exact ih55 (i + 1) (s3 + sm (fun j => clo g c3 ((pk g i * 48 + (g (192 + 5 * i) - 1)) + j)) (g (189 + 5 * i)).toNat) (dcf c3 (pk g i * 48 + (g (192 + 5 * i) - 1)) ((pk g i * 48 + (g (192 + 5 * i) - 1)) + g (189 + 5 * i))) ls H locs (by omega) (by first | (rw [nx.1 c73]; exact g2; done) | (rw [(nx.2 c73).1, ← g2]; done)) (by first | (rw [nx.1 c73]; exact g3; done) | (exact (nx.2 c73).2; done)) (by omega) (lv_sub hl [0, 1] rfl) hP hD hS
        exact L55 _ 0 s2 c0 ls H locs (by omega) (by rw [SF_tr0 hg ec, h2, show i = 144 by omega]; rfl) (fun c a b => by rw [cvc_tr0 hg]; exact ec c a b) (Nat.lt_succ_self _) (lv_sub hl [0, 1] rfl) hP hD hS
      · skip
        refine lv_aload_n hx hb dX3_recount_33 rfl (lv_at hl 1 rfl) ?_
        refine lv_dup hx hb dX3_recount_34 rfl ?_
        refine va_get (D := D) (ci := 3) (v := .int (iI (s2))) (C := RX3) (T := TX3) (N := 4) hx hb hts (by decide +kernel) hown hK hP 0 rfl rfl 3 (by decide) (hts (.fieldLink RX3 42 "BreakSetter$Roster" "shortfall" "I") (by decide +kernel)) (fun _ h9 => h9) rfl dX3_recount_35 ?_
        refine lv_aload_n hx hb dX3_recount_38 rfl (lv_at hl 1 rfl) ?_
        refine lv_iload_n hx hb dX3_recount_39 rfl (lv_at hl 0 rfl) ?_
        refine CR_callV (As := [.int (iI (i))]) (rest := [.int (iI (s2)), .ref (q 28)]) ⟨hx, hb, hml, hown, hts⟩ (c_X3_shortOfG (ShW_mk hw) hg (by omega) (by have r := ec i (by omega) (by omega); have r2 := cvc_rng (Wf_tr hg (i := 0) (by omega)) i; rw [cvc_tr0 hg] at r2; omega)) (cwV 1 hts gX3_recount_X3_shortOf rfl rfl rfl (by decide +kernel) ⟨Nat.le_of_ble_eq_true rfl, Nat.le_of_ble_eq_true rfl⟩) (q0 := 0) rfl rfl rfl hK hNW hP rfl hl.1 rfl (Nat.le_of_ble_eq_true rfl) dX3_recount_40 ⟨Nat.zero_le _, Nat.zero_le _⟩ ?_
        refine j_iadd hx hb dX3_recount_43 ?_
        refine va_put (D := D) (ci := 3) (v := .int (iI (s2 + (max (g (4 + i) - c0 i) 0)))) (ty := .int) (C := RX3) (T := TX3) (N := 4) hx hb hts (by decide +kernel) tyX3 tyX3_ok nmX3 hown hK hP hD hS 0 rfl rfl 3 (by decide) (hts (.fieldLink RX3 42 "BreakSetter$Roster" "shortfall" "I") (by decide +kernel)) (fun _ h9 => h9) rfl (by decide +kernel) rfl rfl (Nat.le_of_ble_eq_true rfl) dX3_recount_44 (fun H locs hP hD hS => ?_)
        have hP : va_P D vwCl (wRo q C (s2 + (max (g (4 + i) - c0 i) 0)) pla c0 ++ wp) H := hP
        have hD : va_D A (wRo q C (s2 + (max (g (4 + i) - c0 i) 0)) pla c0 ++ wp) := hD
        refine j_iinc (k := 0) (lv' := [(1, .int (iI (i + 1))), (0, .ref (q 28))]) hx hb dX3_recount_47 hl rfl (by decide) rfl (fun ls hl => ?_)
        refine lv_goto (tgt := 26) hx hb dX3_recount_50 rfl ?_
        exact ih26 (i + 1) (s2 + (max (g (4 + i) - c0 i) 0)) ls H locs (by omega) (by rw [smI_s _ (by omega), ← h2]) (by omega) (lv_sub hl [0, 1] rfl) hP hD hS
  exact L26 _ 0 0 ls H locs (by omega) rfl (Nat.lt_succ_self _) (lv_sub hl [0, 1] rfl) hP hD hS
