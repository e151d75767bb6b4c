/-- a shift of the post has just one pause, and a short one -/
def shO (g : Int → Int) (p x : Int) : Prop := g (148 + 5 * x) = p → g (151 + 5 * x) = 1 ∧ g (189 + 5 * g (152 + 5 * x)) = 1
def shA (g : Int → Int) (p : Int) : Prop := ∀ x : Int, 0 ≤ x → x < g 2 → shO g p x
theorem mk_bit8 : ∀ M : Nat, M < 256 → ∀ x : Nat, x < 8 → (iI (M : Int) >>> (iI (x : Int) &&& 31)) &&& iI 1 = iI (if M.testBit x = true then 1 else 0) := by decide +kernel
theorem mk_set8 : ∀ M : Nat, M < 256 → ∀ x : Nat, x < 8 → iI (M : Int) ||| (iI 1 <<< (iI (x : Int) &&& 31)) = iI ((M ||| 2 ^ x : Nat) : Int) := by decide +kernel
theorem mk_bit {M : Nat} (hM : M < 256) {x : Int} (h0 : 0 ≤ x) (h1 : x < 8) : (iI (M : Int) >>> (iI x &&& 31)) &&& iI 1 = iI (bI (M.testBit x.toNat = true)) := by
  have e := mk_bit8 M hM x.toNat (by omega)
  rw [Int.toNat_of_nonneg h0] at e
  rw [e]
  by_cases c : M.testBit x.toNat = true
  · rw [if_pos c, bI_t c]
  · rw [if_neg c, bI_f c]
theorem mk_set {M : Nat} (hM : M < 256) {x : Int} (h0 : 0 ≤ x) (h1 : x < 8) : iI (M : Int) ||| (iI 1 <<< (iI x &&& 31)) = iI ((M ||| 2 ^ x.toNat : Nat) : Int) := by
  have e := mk_set8 M hM x.toNat (by omega)
  rw [Int.toNat_of_nonneg h0] at e
  exact e
theorem ts_nf2 {b : Bool} (h : ¬ b = true) : b = false := by cases b with
  | true => exact absurd rfl h
  | false => rfl
/-- of those that are not seated and may be here the one that must go first -/
def ug1 (g : Int → Int) (p t : Int) (M : Nat) (s : Int × Int) (x : Int) : Int × Int := if g (148 + 5 * x) = p ∧ M.testBit x.toNat = false ∧ g (190 + 5 * g (152 + 5 * x)) ≤ t ∧ t ≤ g (191 + 5 * g (152 + 5 * x)) ∧ g (191 + 5 * g (152 + 5 * x)) < s.2 then (x, g (191 + 5 * g (152 + 5 * x))) else s
def ugn (g : Int → Int) (p t : Int) (M : Nat) : Nat → Int × Int
  | 0 => (-1, 48)
  | n + 1 => ug1 g p t M (ugn g p t M n) n
theorem ugn_s {g : Int → Int} {p t : Int} {M : Nat} {i : Int} (h : 0 ≤ i) : ugn g p t M (i + 1).toNat = ug1 g p t M (ugn g p t M i.toNat) i := by
  rw [show (i + 1).toNat = i.toNat + 1 by omega]
  show ug1 g p t M _ ((i.toNat : Nat) : Int) = _
  rw [Int.toNat_of_nonneg h]
set_option maxHeartbeats 4000000 in
set_option maxRecDepth 100000 in
theorem c_X1_hasShortPausesAlone {l : Launch} {D : va_G} {C : Nat → ClassId} {q : Nat → Nat} {w : va_W} {g : Int → Int} (hw : PlW q C w g) (hg : Wf g) {pp : Int} (hp : 0 ≤ pp ∧ pp < 3) : CR l yX1_hasShortPausesAlone wsX1_hasShortPausesAlone 0 0 D C [.ref (q 16), .int (iI (pp))] (w) (.int (iI (bI (shA g pp)))) := by
  obtain ⟨⟨k16, ln, nd, h16⟩, ⟨k17, f17, h17, e17⟩, ⟨k18, f18, h18, e18⟩, ⟨k19, f19, h19, e19⟩, ⟨k20, f20, h20, e20⟩, ⟨k21, f21, h21, e21⟩, ⟨k22, f22, h22, e22⟩, ⟨k23, f23, h23, e23⟩, ⟨k24, f24, h24, e24⟩, ⟨k25, f25, h25, e25⟩, ⟨k26, f26, h26, e26⟩, ⟨k27, f27, h27, e27⟩⟩ := id hw
  refine CRZ_of (cc := cX1_hasShortPausesAlone) (maxL := 3) (by decide) rfl (Nat.le_of_ble_eq_true rfl) (bI_01 _) ?_
  intro p e s m below meth c Q ls hx hb hml hown hts hK hNW hl hP hret
  have hl : lv_has ls 3 [(0, .ref (q 16)), (1, .int (iI (pp)))] := hl
  have n := Wf_n hg
  refine lv_iconst (v := iI (0)) hx hb dX1_hasShortPausesAlone_0 rfl ?_
  refine lv_istore_n (lv' := [(2, .int (iI (0))), (0, .ref (q 16)), (1, .int (iI (pp)))]) hx hb dX1_hasShortPausesAlone_1 rfl hl (by decide) rfl (fun ls hl => ?_)
  have L2 : ∀ (n : Nat) (i : Int) (ls : Array Slot), (0 ≤ i ∧ i ≤ g 2) → (∀ x : Int, 0 ≤ x → x < i → shO g pp x) → ((g 2 - i).toNat < n) → (lv_has ls 3 [(2, .int (iI (i))), (0, .ref (q 16)), (1, .int (iI (pp)))]) → W p l e (rmN 0 0) s m ([.ref (q 16), .int (iI (pp))] : List Value).toArray below meth c s.heap [] 0 0 Q (F0 m 2 ls []) := by
    intro n
    induction n with
    | zero => intro i ls h1 h2 hn; exact absurd hn (Nat.not_lt_zero _)
    | succ n ih2 =>
      intro i ls h1 h2 hn hl
      have hn2 := hn
      refine lv_iload_n hx hb dX1_hasShortPausesAlone_2 rfl (lv_at hl 0 rfl) ?_
      refine lv_aload_n hx hb dX1_hasShortPausesAlone_3 rfl (lv_at hl 1 rfl) ?_
      refine va_get (D := D) (ci := 1) (v := .int (iI (g 2))) (C := RX1) (T := TX1) (N := 17) hx hb hts (by decide +kernel) hown hK hP k16 h16 rfl 4 (by decide) (hts (.fieldLink RX1 58 "BreakSetter$Plan" "shifts" "I") (by decide +kernel)) (fun _ h9 => h9) rfl dX1_hasShortPausesAlone_4 ?_
      refine j_icmp_ge (tgt := 53) hx hb dX1_hasShortPausesAlone_7 rfl ⟨by omega, by omega⟩ ⟨by omega, by omega⟩ (fun c7 => ?_) (fun c7 => ?_)
      · skip
        refine lv_iconst (v := iI (1)) hx hb dX1_hasShortPausesAlone_53 rfl ?_
        exact hret ls 54 _ dX1_hasShortPausesAlone_54 (by rw [bI_t (show shA g pp from fun x a b => h2 x a (by omega))])
      · skip
        have b := Wf_sh hg (s := i) (by omega) (by omega)
        refine lv_aload_n hx hb dX1_hasShortPausesAlone_10 rfl (lv_at hl 1 rfl) ?_
        refine va_get (D := D) (ci := 1) (v := .ref (q 19)) (C := RX1) (T := TX1) (N := 17) hx hb hts (by decide +kernel) hown hK hP k16 h16 rfl 8 (by decide) (hts (.fieldLink RX1 25 "BreakSetter$Plan" "shiftPost" "[I") (by decide +kernel)) (fun _ h9 => h9) rfl dX1_hasShortPausesAlone_11 ?_
        refine lv_iload_n hx hb dX1_hasShortPausesAlone_14 rfl (lv_at hl 0 rfl) ?_
        refine j_iald hx hb hK hP k19 1 h19 rfl ⟨by omega, by omega⟩ (Nat.le_of_ble_eq_true rfl) dX1_hasShortPausesAlone_15 ?_
        refine W_wen (y := iI (g (148 + 5 * i))) (congrArg iI (e19 i (by omega) (by omega))) ?_
        refine lv_iload_n hx hb dX1_hasShortPausesAlone_16 rfl (lv_at hl 2 rfl) ?_
        refine j_icmp_ne (tgt := 47) hx hb dX1_hasShortPausesAlone_17 rfl ⟨by omega, by omega⟩ ⟨by omega, by omega⟩ (fun c17 => ?_) (fun c17 => ?_)
        · skip
          refine j_iinc (k := 0) (lv' := [(2, .int (iI (i + 1))), (0, .ref (q 16)), (1, .int (iI (pp)))]) hx hb dX1_hasShortPausesAlone_47 hl rfl (by decide) rfl (fun ls hl => ?_)
          refine lv_goto (tgt := 2) hx hb dX1_hasShortPausesAlone_50 rfl ?_
          exact ih2 (i + 1) ls (by omega) (fa_step h2 (fun e => by exact absurd e c17)) (by omega) (lv_sub hl [0, 1, 2] rfl)
        · skip
          refine lv_aload_n hx hb dX1_hasShortPausesAlone_20 rfl (lv_at hl 1 rfl) ?_
          refine va_get (D := D) (ci := 1) (v := .ref (q 22)) (C := RX1) (T := TX1) (N := 17) hx hb hts (by decide +kernel) hown hK hP k16 h16 rfl 11 (by decide) (hts (.fieldLink RX1 34 "BreakSetter$Plan" "shiftPauses" "[I") (by decide +kernel)) (fun _ h9 => h9) rfl dX1_hasShortPausesAlone_21 ?_
          refine lv_iload_n hx hb dX1_hasShortPausesAlone_24 rfl (lv_at hl 0 rfl) ?_
          refine j_iald hx hb hK hP k22 1 h22 rfl ⟨by omega, by omega⟩ (Nat.le_of_ble_eq_true rfl) dX1_hasShortPausesAlone_25 ?_
          refine W_wen (y := iI (g (151 + 5 * i))) (congrArg iI (e22 i (by omega) (by omega))) ?_
          refine lv_iconst (v := iI (1)) hx hb dX1_hasShortPausesAlone_26 rfl ?_
          refine j_icmp_ne (tgt := 45) hx hb dX1_hasShortPausesAlone_27 rfl ⟨by omega, by omega⟩ ⟨by decide, by decide⟩ (fun c27 => ?_) (fun c27 => ?_)
          · skip
            refine lv_iconst (v := iI (0)) hx hb dX1_hasShortPausesAlone_45 rfl ?_
            exact hret ls 46 _ dX1_hasShortPausesAlone_46 (by rw [bI_f (show ¬ shA g pp from fun q => by have z := q i (by omega) (by omega) c17; exact c27 z.1)])
          · skip
            have b2 := Wf_p hg (k := g (152 + 5 * i)) (by omega) (by omega)
            refine lv_aload_n hx hb dX1_hasShortPausesAlone_30 rfl (lv_at hl 1 rfl) ?_
            refine va_get (D := D) (ci := 1) (v := .ref (q 25)) (C := RX1) (T := TX1) (N := 17) hx hb hts (by decide +kernel) hown hK hP k16 h16 rfl 14 (by decide) (hts (.fieldLink RX1 43 "BreakSetter$Plan" "pauseLong" "[I") (by decide +kernel)) (fun _ h9 => h9) rfl dX1_hasShortPausesAlone_31 ?_
            refine lv_aload_n hx hb dX1_hasShortPausesAlone_34 rfl (lv_at hl 1 rfl) ?_
            refine va_get (D := D) (ci := 1) (v := .ref (q 23)) (C := RX1) (T := TX1) (N := 17) hx hb hts (by decide +kernel) hown hK hP k16 h16 rfl 12 (by decide) (hts (.fieldLink RX1 37 "BreakSetter$Plan" "shiftFirst" "[I") (by decide +kernel)) (fun _ h9 => h9) rfl dX1_hasShortPausesAlone_35 ?_
            refine lv_iload_n hx hb dX1_hasShortPausesAlone_38 rfl (lv_at hl 0 rfl) ?_
            refine j_iald hx hb hK hP k23 1 h23 rfl ⟨by omega, by omega⟩ (Nat.le_of_ble_eq_true rfl) dX1_hasShortPausesAlone_39 ?_
            refine W_wen (y := iI (g (152 + 5 * i))) (congrArg iI (e23 i (by omega) (by omega))) ?_
            refine j_iald hx hb hK hP k25 1 h25 rfl ⟨by omega, by omega⟩ (Nat.le_of_ble_eq_true rfl) dX1_hasShortPausesAlone_40 ?_
            refine W_wen (y := iI (g (189 + 5 * (g (152 + 5 * i))))) (congrArg iI (e25 (g (152 + 5 * i)) (by omega) (by omega))) ?_
            refine lv_iconst (v := iI (1)) hx hb dX1_hasShortPausesAlone_41 rfl ?_
            refine j_icmp_eq (tgt := 47) hx hb dX1_hasShortPausesAlone_42 rfl ⟨by omega, by omega⟩ ⟨by decide, by decide⟩ (fun c42 => ?_) (fun c42 => ?_)
            · skip
              refine j_iinc (k := 0) (lv' := [(2, .int (iI (i + 1))), (0, .ref (q 16)), (1, .int (iI (pp)))]) hx hb dX1_hasShortPausesAlone_47 hl rfl (by decide) rfl (fun ls hl => ?_)
              refine lv_goto (tgt := 2) hx hb dX1_hasShortPausesAlone_50 rfl ?_
              exact ih2 (i + 1) ls (by omega) (fa_step h2 (fun e => by first | exact ⟨c27, c42⟩ | exact absurd e c17)) (by omega) (lv_sub hl [0, 1, 2] rfl)
            · skip
              refine lv_iconst (v := iI (0)) hx hb dX1_hasShortPausesAlone_45 rfl ?_
              exact hret ls 46 _ dX1_hasShortPausesAlone_46 (by rw [bI_f (show ¬ shA g pp from fun q => by have z := q i (by omega) (by omega) c17; first | exact c27 z.1 | exact c42 z.2)])
  exact L2 _ 0 ls (by omega) (fun x a b => absurd b (by omega)) (Nat.lt_succ_self _) (lv_sub hl [0, 1, 2] rfl)

set_option maxHeartbeats 4000000 in
set_option maxRecDepth 100000 in
theorem c_X1_mostUrgentShift {l : Launch} {D : va_G} {C : Nat → ClassId} {q : Nat → Nat} {w : va_W} {g : Int → Int} (hw : PlW q C w g) (hg : Wf g) {pp tt : Int} {MM : Nat} (hp : 0 ≤ pp ∧ pp < 3) (ht : 0 ≤ tt ∧ tt < 48) (hM : MM < 256) (hA : shA g pp) : CR l yX1_mostUrgentShift wsX1_mostUrgentShift 0 0 D C [.ref (q 16), .int (iI (pp)), .int (iI (tt)), .int (iI ((MM : Int)))] (w) (.int (iI ((ugn g pp tt MM (g 2).toNat).1))) := by
  obtain ⟨⟨k16, ln, nd, h16⟩, ⟨k17, f17, h17, e17⟩, ⟨k18, f18, h18, e18⟩, ⟨k19, f19, h19, e19⟩, ⟨k20, f20, h20, e20⟩, ⟨k21, f21, h21, e21⟩, ⟨k22, f22, h22, e22⟩, ⟨k23, f23, h23, e23⟩, ⟨k24, f24, h24, e24⟩, ⟨k25, f25, h25, e25⟩, ⟨k26, f26, h26, e26⟩, ⟨k27, f27, h27, e27⟩⟩ := id hw
  refine CR_of (cc := cX1_mostUrgentShift) (maxL := 9) (by decide) rfl (Nat.le_of_ble_eq_true rfl) ?_
  intro p e s m below meth c Q ls hx hb hml hown hts hK hNW hl hP hret
  have hl : lv_has ls 9 [(0, .ref (q 16)), (1, .int (iI (pp))), (2, .int (iI (tt))), (3, .int (iI ((MM : Int))))] := hl
  have n := Wf_n hg
  refine lv_iconst (v := iI (-1)) hx hb dX1_mostUrgentShift_0 rfl ?_
  refine lv_istore (lv' := [(4, .int (iI (-1))), (0, .ref (q 16)), (1, .int (iI (pp))), (2, .int (iI (tt))), (3, .int (iI ((MM : Int))))]) hx hb dX1_mostUrgentShift_1 hl (by decide) rfl (fun ls hl => ?_)
  refine lv_bipush (v := iI (48)) hx hb dX1_mostUrgentShift_3 (by decide) ?_
  refine lv_istore (lv' := [(5, .int (iI (48))), (4, .int (iI (-1))), (0, .ref (q 16)), (1, .int (iI (pp))), (2, .int (iI (tt))), (3, .int (iI ((MM : Int))))]) hx hb dX1_mostUrgentShift_5 hl (by decide) rfl (fun ls hl => ?_)
  refine lv_iconst (v := iI (0)) hx hb dX1_mostUrgentShift_7 rfl ?_
  refine lv_istore (lv' := [(6, .int (iI (0))), (5, .int (iI (48))), (4, .int (iI (-1))), (0, .ref (q 16)), (1, .int (iI (pp))), (2, .int (iI (tt))), (3, .int (iI ((MM : Int))))]) hx hb dX1_mostUrgentShift_8 hl (by decide) rfl (fun ls hl => ?_)
  have L10 : ∀ (n : Nat) (i : Int) (u : Int) (ul : Int) (ls : Array Slot), (0 ≤ i ∧ i ≤ g 2) → (ugn g pp tt MM i.toNat = (u, ul)) → (-1 ≤ u ∧ u < 8 ∧ 0 ≤ ul ∧ ul ≤ 48) → ((g 2 - i).toNat < n) → (lv_has ls 9 [(6, .int (iI (i))), (5, .int (iI (ul))), (4, .int (iI (u))), (0, .ref (q 16)), (1, .int (iI (pp))), (2, .int (iI (tt))), (3, .int (iI ((MM : Int))))]) → W p l e (rmN 0 0) s m ([.ref (q 16), .int (iI (pp)), .int (iI (tt)), .int (iI ((MM : Int)))] : List Value).toArray below meth c s.heap [] 0 0 Q (F0 m 10 ls []) := by
    intro n
    induction n with
    | zero => intro i u ul ls h1 h2 h3 hn; exact absurd hn (Nat.not_lt_zero _)
    | succ n ih10 =>
      intro i u ul ls h1 h2 h3 hn hl
      have hn10 := hn
      refine lv_iload hx hb dX1_mostUrgentShift_10 (lv_at hl 0 rfl) ?_
      refine lv_aload_n hx hb dX1_mostUrgentShift_12 rfl (lv_at hl 3 rfl) ?_
      refine va_get (D := D) (ci := 1) (v := .int (iI (g 2))) (C := RX1) (T := TX1) (N := 17) hx hb hts (by decide +kernel) hown hK hP k16 h16 rfl 4 (by decide) (hts (.fieldLink RX1 58 "BreakSetter$Plan" "shifts" "I") (by decide +kernel)) (fun _ h9 => h9) rfl dX1_mostUrgentShift_13 ?_
      refine j_icmp_ge (tgt := 95) hx hb dX1_mostUrgentShift_16 rfl ⟨by omega, by omega⟩ ⟨by omega, by omega⟩ (fun c16 => ?_) (fun c16 => ?_)
      · skip
        refine lv_iload hx hb dX1_mostUrgentShift_95 (lv_at hl 2 rfl) ?_
        exact hret ls 97 _ dX1_mostUrgentShift_97 (by rw [show (g 2).toNat = i.toNat by omega, h2])
      · skip
        have b := Wf_sh hg (s := i) (by omega) (by omega)
        refine lv_aload_n hx hb dX1_mostUrgentShift_19 rfl (lv_at hl 3 rfl) ?_
        refine va_get (D := D) (ci := 1) (v := .ref (q 19)) (C := RX1) (T := TX1) (N := 17) hx hb hts (by decide +kernel) hown hK hP k16 h16 rfl 8 (by decide) (hts (.fieldLink RX1 25 "BreakSetter$Plan" "shiftPost" "[I") (by decide +kernel)) (fun _ h9 => h9) rfl dX1_mostUrgentShift_20 ?_
        refine lv_iload hx hb dX1_mostUrgentShift_23 (lv_at hl 0 rfl) ?_
        refine j_iald hx hb hK hP k19 1 h19 rfl ⟨by omega, by omega⟩ (Nat.le_of_ble_eq_true rfl) dX1_mostUrgentShift_25 ?_
        refine W_wen (y := iI (g (148 + 5 * i))) (congrArg iI (e19 i (by omega) (by omega))) ?_
        refine lv_iload_n hx hb dX1_mostUrgentShift_26 rfl (lv_at hl 4 rfl) ?_
        refine j_icmp_ne (tgt := 89) hx hb dX1_mostUrgentShift_27 rfl ⟨by omega, by omega⟩ ⟨by omega, by omega⟩ (fun c27 => ?_) (fun c27 => ?_)
        · skip
          refine j_iinc (k := 0) (lv' := [(6, .int (iI (i + 1))), (5, .int (iI (ul))), (4, .int (iI (u))), (0, .ref (q 16)), (1, .int (iI (pp))), (2, .int (iI (tt))), (3, .int (iI ((MM : Int))))]) hx hb dX1_mostUrgentShift_89 hl rfl (by decide) rfl (fun ls hl => ?_)
          refine lv_goto (tgt := 10) hx hb dX1_mostUrgentShift_92 rfl ?_
          exact ih10 (i + 1) u ul ls (by omega) (by rw [ugn_s h1.1, h2]; unfold ug1; (exact if_neg (fun q => by have q1 := q.1; have q2 := q.2.2.1; have q3 := q.2.2.2.1; have q4 : g (191 + 5 * g (152 + 5 * i)) < ul := q.2.2.2.2; omega); done)) (by omega) (by omega) (lv_sub hl [0, 1, 2, 3, 4, 5, 6] rfl)
        · skip
          refine lv_iload_n hx hb dX1_mostUrgentShift_30 rfl (lv_at hl 6 rfl) ?_
          refine lv_iload hx hb dX1_mostUrgentShift_31 (lv_at hl 0 rfl) ?_
          refine lv_ishr hx hb dX1_mostUrgentShift_33 ?_
          refine lv_iconst (v := iI (1)) hx hb dX1_mostUrgentShift_34 rfl ?_
          refine lv_iand hx hb dX1_mostUrgentShift_35 ?_
          refine W_wen (y := iI (bI (MM.testBit (i).toNat = true))) (mk_bit hM (by omega) (by omega)) ?_
          refine j_ifneB (tgt := 89) hx hb dX1_mostUrgentShift_36 rfl (fun c36 => ?_) (fun c36 => ?_)
          · skip
            refine j_iinc (k := 0) (lv' := [(6, .int (iI (i + 1))), (5, .int (iI (ul))), (4, .int (iI (u))), (0, .ref (q 16)), (1, .int (iI (pp))), (2, .int (iI (tt))), (3, .int (iI ((MM : Int))))]) hx hb dX1_mostUrgentShift_89 hl rfl (by decide) rfl (fun ls hl => ?_)
            refine lv_goto (tgt := 10) hx hb dX1_mostUrgentShift_92 rfl ?_
            exact ih10 (i + 1) u ul ls (by omega) (by rw [ugn_s h1.1, h2]; unfold ug1; first | (exact if_pos ⟨c27, ts_nf2 c36, by omega, by omega, by show _ < ul; omega⟩; done) | (exact if_neg (fun q => by have q1 := q.1; have q2 := q.2.2.1; have q3 := q.2.2.2.1; have q4 : g (191 + 5 * g (152 + 5 * i)) < ul := q.2.2.2.2; omega); done) | (exact if_neg (fun q => absurd c36 (by rw [q.2.1]; decide)); done)) (by omega) (by omega) (lv_sub hl [0, 1, 2, 3, 4, 5, 6] rfl)
          · skip
            have z := hA i (by omega) (by omega) c27
            have b2 := Wf_p hg (k := g (152 + 5 * i)) (by omega) (by omega)
            refine lv_aload_n hx hb dX1_mostUrgentShift_39 rfl (lv_at hl 3 rfl) ?_
            refine va_get (D := D) (ci := 1) (v := .ref (q 23)) (C := RX1) (T := TX1) (N := 17) hx hb hts (by decide +kernel) hown hK hP k16 h16 rfl 12 (by decide) (hts (.fieldLink RX1 37 "BreakSetter$Plan" "shiftFirst" "[I") (by decide +kernel)) (fun _ h9 => h9) rfl dX1_mostUrgentShift_40 ?_
            refine lv_iload hx hb dX1_mostUrgentShift_43 (lv_at hl 0 rfl) ?_
            refine j_iald hx hb hK hP k23 1 h23 rfl ⟨by omega, by omega⟩ (Nat.le_of_ble_eq_true rfl) dX1_mostUrgentShift_45 ?_
            refine W_wen (y := iI (g (152 + 5 * i))) (congrArg iI (e23 i (by omega) (by omega))) ?_
            refine lv_istore (lv' := [(7, .int (iI (g (152 + 5 * i)))), (6, .int (iI (i))), (5, .int (iI (ul))), (4, .int (iI (u))), (0, .ref (q 16)), (1, .int (iI (pp))), (2, .int (iI (tt))), (3, .int (iI ((MM : Int))))]) hx hb dX1_mostUrgentShift_46 hl (by decide) rfl (fun ls hl => ?_)
            refine lv_aload_n hx hb dX1_mostUrgentShift_48 rfl (lv_at hl 4 rfl) ?_
            refine va_get (D := D) (ci := 1) (v := .ref (q 27)) (C := RX1) (T := TX1) (N := 17) hx hb hts (by decide +kernel) hown hK hP k16 h16 rfl 16 (by decide) (hts (.fieldLink RX1 49 "BreakSetter$Plan" "pauseLate" "[I") (by decide +kernel)) (fun _ h9 => h9) rfl dX1_mostUrgentShift_49 ?_
            refine lv_iload hx hb dX1_mostUrgentShift_52 (lv_at hl 0 rfl) ?_
            refine j_iald hx hb hK hP k27 1 h27 rfl ⟨by omega, by omega⟩ (Nat.le_of_ble_eq_true rfl) dX1_mostUrgentShift_54 ?_
            refine W_wen (y := iI (g (191 + 5 * (g (152 + 5 * i))))) (congrArg iI (e27 (g (152 + 5 * i)) (by omega) (by omega))) ?_
            refine lv_istore (lv' := [(8, .int (iI (g (191 + 5 * (g (152 + 5 * i)))))), (7, .int (iI (g (152 + 5 * i)))), (6, .int (iI (i))), (5, .int (iI (ul))), (4, .int (iI (u))), (0, .ref (q 16)), (1, .int (iI (pp))), (2, .int (iI (tt))), (3, .int (iI ((MM : Int))))]) hx hb dX1_mostUrgentShift_55 hl (by decide) rfl (fun ls hl => ?_)
            refine lv_aload_n hx hb dX1_mostUrgentShift_57 rfl (lv_at hl 5 rfl) ?_
            refine va_get (D := D) (ci := 1) (v := .ref (q 26)) (C := RX1) (T := TX1) (N := 17) hx hb hts (by decide +kernel) hown hK hP k16 h16 rfl 15 (by decide) (hts (.fieldLink RX1 46 "BreakSetter$Plan" "pauseEarly" "[I") (by decide +kernel)) (fun _ h9 => h9) rfl dX1_mostUrgentShift_58 ?_
            refine lv_iload hx hb dX1_mostUrgentShift_61 (lv_at hl 1 rfl) ?_
            refine j_iald hx hb hK hP k26 1 h26 rfl ⟨by omega, by omega⟩ (Nat.le_of_ble_eq_true rfl) dX1_mostUrgentShift_63 ?_
            refine W_wen (y := iI (g (190 + 5 * (g (152 + 5 * i))))) (congrArg iI (e26 (g (152 + 5 * i)) (by omega) (by omega))) ?_
            refine lv_iload_n hx hb dX1_mostUrgentShift_64 rfl (lv_at hl 7 rfl) ?_
            refine j_icmp_gt (tgt := 89) hx hb dX1_mostUrgentShift_65 rfl ⟨by omega, by omega⟩ ⟨by omega, by omega⟩ (fun c65 => ?_) (fun c65 => ?_)
            · skip
              refine j_iinc (k := 2) (lv' := [(6, .int (iI (i + 1))), (8, .int (iI (g (191 + 5 * (g (152 + 5 * i)))))), (7, .int (iI (g (152 + 5 * i)))), (5, .int (iI (ul))), (4, .int (iI (u))), (0, .ref (q 16)), (1, .int (iI (pp))), (2, .int (iI (tt))), (3, .int (iI ((MM : Int))))]) hx hb dX1_mostUrgentShift_89 hl rfl (by decide) rfl (fun ls hl => ?_)
              refine lv_goto (tgt := 10) hx hb dX1_mostUrgentShift_92 rfl ?_
              exact ih10 (i + 1) u ul ls (by omega) (by rw [ugn_s h1.1, h2]; unfold ug1; first | (exact if_pos ⟨c27, ts_nf2 c36, by omega, by omega, by show _ < ul; omega⟩; done) | (exact if_neg (fun q => by have q1 := q.1; have q2 := q.2.2.1; have q3 := q.2.2.2.1; have q4 : g (191 + 5 * g (152 + 5 * i)) < ul := q.2.2.2.2; omega); done) | (exact if_neg (fun q => absurd c36 (by rw [q.2.1]; decide)); done)) (by omega) (by omega) (lv_sub hl [0, 3, 4, 5, 6, 7, 8] rfl)
            · skip
              refine lv_iload_n hx hb dX1_mostUrgentShift_68 rfl (lv_at hl 7 rfl) ?_
              refine lv_iload hx hb dX1_mostUrgentShift_69 (lv_at hl 0 rfl) ?_
              refine j_icmp_gt (tgt := 89) hx hb dX1_mostUrgentShift_71 rfl ⟨by omega, by omega⟩ ⟨by omega, by omega⟩ (fun c71 => ?_) (fun c71 => ?_)
              · skip
                refine j_iinc (k := 2) (lv' := [(6, .int (iI (i + 1))), (8, .int (iI (g (191 + 5 * (g (152 + 5 * i)))))), (7, .int (iI (g (152 + 5 * i)))), (5, .int (iI (ul))), (4, .int (iI (u))), (0, .ref (q 16)), (1, .int (iI (pp))), (2, .int (iI (tt))), (3, .int (iI ((MM : Int))))]) hx hb dX1_mostUrgentShift_89 hl rfl (by decide) rfl (fun ls hl => ?_)
                refine lv_goto (tgt := 10) hx hb dX1_mostUrgentShift_92 rfl ?_
                exact ih10 (i + 1) u ul ls (by omega) (by rw [ugn_s h1.1, h2]; unfold ug1; first | (exact if_pos ⟨c27, ts_nf2 c36, by omega, by omega, by show _ < ul; omega⟩; done) | (exact if_neg (fun q => by have q1 := q.1; have q2 := q.2.2.1; have q3 := q.2.2.2.1; have q4 : g (191 + 5 * g (152 + 5 * i)) < ul := q.2.2.2.2; omega); done) | (exact if_neg (fun q => absurd c36 (by rw [q.2.1]; decide)); done)) (by omega) (by omega) (lv_sub hl [0, 3, 4, 5, 6, 7, 8] rfl)
              · skip
                refine lv_iload hx hb dX1_mostUrgentShift_74 (lv_at hl 0 rfl) ?_
                refine lv_iload hx hb dX1_mostUrgentShift_76 (lv_at hl 3 rfl) ?_
                refine j_icmp_ge (tgt := 89) hx hb dX1_mostUrgentShift_78 rfl ⟨by omega, by omega⟩ ⟨by omega, by omega⟩ (fun c78 => ?_) (fun c78 => ?_)
                · skip
                  refine j_iinc (k := 2) (lv' := [(6, .int (iI (i + 1))), (8, .int (iI (g (191 + 5 * (g (152 + 5 * i)))))), (7, .int (iI (g (152 + 5 * i)))), (5, .int (iI (ul))), (4, .int (iI (u))), (0, .ref (q 16)), (1, .int (iI (pp))), (2, .int (iI (tt))), (3, .int (iI ((MM : Int))))]) hx hb dX1_mostUrgentShift_89 hl rfl (by decide) rfl (fun ls hl => ?_)
                  refine lv_goto (tgt := 10) hx hb dX1_mostUrgentShift_92 rfl ?_
                  exact ih10 (i + 1) u ul ls (by omega) (by rw [ugn_s h1.1, h2]; unfold ug1; first | (exact if_pos ⟨c27, ts_nf2 c36, by omega, by omega, by show _ < ul; omega⟩; done) | (exact if_neg (fun q => by have q1 := q.1; have q2 := q.2.2.1; have q3 := q.2.2.2.1; have q4 : g (191 + 5 * g (152 + 5 * i)) < ul := q.2.2.2.2; omega); done) | (exact if_neg (fun q => absurd c36 (by rw [q.2.1]; decide)); done)) (by omega) (by omega) (lv_sub hl [0, 3, 4, 5, 6, 7, 8] rfl)
                · skip
                  refine lv_iload hx hb dX1_mostUrgentShift_81 (lv_at hl 2 rfl) ?_
                  refine lv_istore (lv' := [(4, .int (iI (i))), (8, .int (iI (g (191 + 5 * (g (152 + 5 * i)))))), (7, .int (iI (g (152 + 5 * i)))), (6, .int (iI (i))), (5, .int (iI (ul))), (0, .ref (q 16)), (1, .int (iI (pp))), (2, .int (iI (tt))), (3, .int (iI ((MM : Int))))]) hx hb dX1_mostUrgentShift_83 hl (by decide) rfl (fun ls hl => ?_)
                  refine lv_iload hx hb dX1_mostUrgentShift_85 (lv_at hl 1 rfl) ?_
                  refine lv_istore (lv' := [(5, .int (iI (g (191 + 5 * (g (152 + 5 * i)))))), (4, .int (iI (i))), (8, .int (iI (g (191 + 5 * (g (152 + 5 * i)))))), (7, .int (iI (g (152 + 5 * i)))), (6, .int (iI (i))), (0, .ref (q 16)), (1, .int (iI (pp))), (2, .int (iI (tt))), (3, .int (iI ((MM : Int))))]) hx hb dX1_mostUrgentShift_87 hl (by decide) rfl (fun ls hl => ?_)
                  refine j_iinc (k := 4) (lv' := [(6, .int (iI (i + 1))), (5, .int (iI (g (191 + 5 * (g (152 + 5 * i)))))), (4, .int (iI (i))), (8, .int (iI (g (191 + 5 * (g (152 + 5 * i)))))), (7, .int (iI (g (152 + 5 * i)))), (0, .ref (q 16)), (1, .int (iI (pp))), (2, .int (iI (tt))), (3, .int (iI ((MM : Int))))]) hx hb dX1_mostUrgentShift_89 hl rfl (by decide) rfl (fun ls hl => ?_)
                  refine lv_goto (tgt := 10) hx hb dX1_mostUrgentShift_92 rfl ?_
                  exact ih10 (i + 1) i (g (191 + 5 * (g (152 + 5 * i)))) ls (by omega) (by rw [ugn_s h1.1, h2]; unfold ug1; first | (exact if_pos ⟨c27, ts_nf2 c36, by omega, by omega, by show _ < ul; omega⟩; done) | (exact if_neg (fun q => by have q1 := q.1; have q2 := q.2.2.1; have q3 := q.2.2.2.1; have q4 : g (191 + 5 * g (152 + 5 * i)) < ul := q.2.2.2.2; omega); done) | (exact if_neg (fun q => absurd c36 (by rw [q.2.1]; decide)); done)) (by omega) (by omega) (lv_sub hl [0, 1, 2, 5, 6, 7, 8] rfl)
  exact L10 _ 0 (-1) 48 ls (by omega) rfl (by omega) (Nat.lt_succ_self _) (lv_sub hl [0, 1, 2, 3, 4, 5, 6] rfl)
