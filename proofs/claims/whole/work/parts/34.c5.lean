def wWk (q : Nat → Nat) (C : Nat → ClassId) (hp nx : Int → Int) : va_W := [(q 31, .inr (5, [.ref (q 16), .ref (q 28), .ref (q 32), .ref (q 33)])), (q 32, .inl (C 1, 144, .inl (aI hp))), (q 33, .inl (C 1, 144, .inl (aI nx)))]
def WkW (q : Nat → Nat) (C : Nat → ClassId) (w : va_W) (hp nx : Int → Int) : Prop := (∃ k : Nat, w[k]? = some (q 31, .inr (5, [.ref (q 16), .ref (q 28), .ref (q 32), .ref (q 33)]))) ∧ (∃ k : Nat, w[k]? = some (q 32, .inl (C 1, 144, .inl (aI hp)))) ∧ (∃ k : Nat, w[k]? = some (q 33, .inl (C 1, 144, .inl (aI nx))))
theorem WkW_mk {q : Nat → Nat} {C : Nat → ClassId} {wr : va_W} {hp nx : Int → Int} : WkW q C (wWk q C hp nx ++ wr) hp nx := ⟨⟨0, rfl⟩, ⟨1, rfl⟩, ⟨2, rfl⟩⟩
theorem RoW_add {q : Nat → Nat} {C : Nat → ClassId} {w : va_W} {g : Int → Int} (h : RoW q C w g) (v : va_W) : RoW q C (v ++ w) g := by
  have key : ∀ {k : Nat} {z : Nat × va_E}, w[k]? = some z → (v ++ w)[v.length + k]? = some z := fun {k z} e => by
    rw [List.getElem?_append_right (by omega), Nat.add_sub_cancel_left]; exact e
  obtain ⟨h1, ⟨k28, h28⟩, ⟨k29, f29, h29, e29⟩, ⟨k30, f30, h30, e30⟩⟩ := h
  exact ⟨PlW_add h1 v, ⟨_, key h28⟩, ⟨_, f29, key h29, e29⟩, ⟨_, f30, key h30, e30⟩⟩
def hpA (hp : Int → Int) (p t : Int) : Int := if 0 ≤ t ∧ t < 48 then hp (p * 48 + t) else 0
theorem hpA_at {g h : Int → Int} {t p x : Int} (H2 : ∀ p x : Int, 0 ≤ p → p < g 0 → t < x → x < 48 → h (p * 48 + x) = Vf g p x) (hp : 0 ≤ p ∧ p < g 0) (hx : t < x) (h0 : 0 ≤ x) : hpA h p x = Vf g p x := by
  unfold hpA
  by_cases c : x < 48
  · rw [if_pos ⟨h0, c⟩]; exact H2 p x hp.1 hp.2 hx c
  · rw [if_neg (by omega), Vf_hi g p (by omega)]
theorem hpA_up {g h : Int → Int} {t p x p0 v : Int} (H2 : ∀ p x : Int, 0 ≤ p → p < g 0 → t < x → x < 48 → h (p * 48 + x) = Vf g p x) (hp : 0 ≤ p ∧ p < g 0) (hx : t < x) (h0 : 0 ≤ x) (ht : 0 ≤ t ∧ t < 48) : hpA (up h (p0 * 48 + t) v) p x = Vf g p x := by
  unfold hpA
  by_cases c : x < 48
  · rw [if_pos ⟨h0, c⟩, up_n _ _ (by omega)]; exact H2 p x hp.1 hp.2 hx c
  · rw [if_neg (by omega), Vf_hi g p (by omega)]
theorem HC_dn {N t : Int} {h : Int → Int} {V : Int → Int → Int} (H2 : ∀ p x : Int, 0 ≤ p → p < N → t < x → x < 48 → h (p * 48 + x) = V p x) (H3 : ∀ p : Int, 0 ≤ p → p < N → h (p * 48 + t) = V p t) : ∀ p x : Int, 0 ≤ p → p < N → t + (-1) < x → x < 48 → h (p * 48 + x) = V p x := fun p x a b c d => by
  by_cases e : x = t
  · rw [e]; exact H3 p a b
  · exact H2 p x a b (by omega) d
theorem nxp_in {g : Int → Int} (h : Wf g) {p t : Int} (h0 : 0 ≤ t) (h1 : t < 48) (p0 : 0 ≤ p) (p1 : p < g 0) : 0 ≤ (nxp g p t).2 ∧ (nxp g p t).2 < g 0 := by
  by_cases c : sty g p t = Vf g p t
  · rw [nxp_stay h h0 h1 c]; exact ⟨p0, p1⟩
  · have z := nxp_walk h h0 h1 c
    exact ⟨z.1, z.2.1⟩
set_option maxHeartbeats 4000000 in
set_option maxRecDepth 100000 in
theorem c_X5_helpAt {l : Launch} {D : va_G} {C : Nat → ClassId} {q : Nat → Nat} {w : va_W} {hp nx : Int → Int} (hk9 : WkW q C w hp nx) {pp tt : Int} (hp0 : 0 ≤ pp ∧ pp < 3) (ht : R32 tt) : CR l yX5_helpAt wsX5_helpAt 1 21 D C [.ref (q 31), .int (iI (pp)), .int (iI (tt))] (w) (.int (iI (hpA hp pp tt))) := by
  obtain ⟨⟨k31, h31⟩, ⟨k32, h32⟩, ⟨k33, h33⟩⟩ := id hk9
  refine CR_of (cc := cX5_helpAt) (maxL := 3) (by decide) rfl (Nat.le_of_ble_eq_true rfl) ?_
  intro p e s m below meth c Q ls hx hb hml hown hts hK hNW hl hP hret
  have hl : lv_has ls 3 [(0, .ref (q 31)), (1, .int (iI (pp))), (2, .int (iI (tt)))] := hl
  refine lv_iload_n hx hb dX5_helpAt_0 rfl (lv_at hl 2 rfl) ?_
  refine CR_callN (As := [.int (iI (tt))]) (rest := []) ⟨hx, hb, hml, hown, hts⟩ (c_X6_isSlot ht) ⟨va_cnB 1 hts ggX5_helpAt_X6_isSlot rfl rfl rfl hNW.2.2.1 (hts (.initialized RX6) (by decide +kernel)) (by decide +kernel) ⟨Nat.le_of_ble_eq_true rfl, Nat.le_of_ble_eq_true rfl⟩, hts (.static yX6_isSlot) (by decide +kernel), trivial⟩ hK hNW hP rfl hl.1 rfl (Nat.le_of_ble_eq_true rfl) dX5_helpAt_1 ⟨Nat.zero_le _, Nat.zero_le _⟩ ?_
  refine j_ifeqB (tgt := 20) hx hb dX5_helpAt_4 rfl (fun c4 => ?_) (fun c4 => ?_)
  · skip
    refine lv_iconst (v := iI (0)) hx hb dX5_helpAt_20 rfl ?_
    exact hret ls 21 _ dX5_helpAt_21 (by unfold hpA; rw [if_neg c4])
  · skip
    refine lv_aload_n hx hb dX5_helpAt_7 rfl (lv_at hl 0 rfl) ?_
    refine va_get (D := D) (ci := 5) (v := .ref (q 32)) (C := RX5) (T := TX5) (N := 4) hx hb hts (by decide +kernel) hown hK hP k31 h31 rfl 2 (by decide) (hts (.fieldLink RX5 19 "BreakSetter$Walker" "help" "[I") (by decide +kernel)) (fun _ h9 => h9) rfl dX5_helpAt_8 ?_
    refine lv_iload_n hx hb dX5_helpAt_11 rfl (lv_at hl 1 rfl) ?_
    refine lv_iload_n hx hb dX5_helpAt_12 rfl (lv_at hl 2 rfl) ?_
    refine CR_callN (As := [.int (iI (pp)), .int (iI (tt))]) (rest := [.ref (q 32)]) ⟨hx, hb, hml, hown, hts⟩ c_X6_cellOf ⟨va_cnB 2 hts ggX5_helpAt_X6_cellOf rfl rfl rfl hNW.2.1 (hts (.initialized RX6) (by decide +kernel)) (by decide +kernel) ⟨Nat.le_of_ble_eq_true rfl, Nat.le_of_ble_eq_true rfl⟩, hts (.static yX6_cellOf) (by decide +kernel), trivial⟩ hK hNW hP rfl hl.1 rfl (Nat.le_of_ble_eq_true rfl) dX5_helpAt_13 ⟨Nat.zero_le _, Nat.zero_le _⟩ ?_
    refine j_iald hx hb hK hP k32 1 h32 rfl ⟨by omega, by omega⟩ (Nat.le_of_ble_eq_true rfl) dX5_helpAt_16 ?_
    refine lv_goto (tgt := 21) hx hb dX5_helpAt_17 rfl ?_
    exact hret ls 21 _ dX5_helpAt_21 (by unfold hpA; rw [if_pos c4])

set_option maxHeartbeats 4000000 in
set_option maxRecDepth 100000 in
theorem c_X5_helpFrom {l : Launch} {D : va_G} {C : Nat → ClassId} {q : Nat → Nat} {w : va_W} {hp nx : Int → Int} (hk9 : WkW q C w hp nx) {pp : Int} (hp0 : 0 ≤ pp ∧ pp < 3) : CR l yX5_helpFrom wsX5_helpFrom 1 21 D C [.ref (q 31), .int (iI (pp))] (w) (.int (iI (hp (pp * 48 + 0)))) := by
  obtain ⟨⟨k31, h31⟩, ⟨k32, h32⟩, ⟨k33, h33⟩⟩ := id hk9
  refine CR_of (cc := cX5_helpFrom) (maxL := 2) (by decide) rfl (Nat.le_of_ble_eq_true rfl) ?_
  intro p e s m below meth c Q ls hx hb hml hown hts hK hNW hl hP hret
  have hl : lv_has ls 2 [(0, .ref (q 31)), (1, .int (iI (pp)))] := hl
  refine lv_aload_n hx hb dX5_helpFrom_0 rfl (lv_at hl 0 rfl) ?_
  refine va_get (D := D) (ci := 5) (v := .ref (q 32)) (C := RX5) (T := TX5) (N := 4) hx hb hts (by decide +kernel) hown hK hP k31 h31 rfl 2 (by decide) (hts (.fieldLink RX5 19 "BreakSetter$Walker" "help" "[I") (by decide +kernel)) (fun _ h9 => h9) rfl dX5_helpFrom_1 ?_
  refine lv_iload_n hx hb dX5_helpFrom_4 rfl (lv_at hl 1 rfl) ?_
  refine lv_iconst (v := iI (0)) hx hb dX5_helpFrom_5 rfl ?_
  refine CR_callN (As := [.int (iI (pp)), .int (iI (0))]) (rest := [.ref (q 32)]) ⟨hx, hb, hml, hown, hts⟩ c_X6_cellOf ⟨va_cnB 2 hts ggX5_helpFrom_X6_cellOf rfl rfl rfl hNW.2.1 (hts (.initialized RX6) (by decide +kernel)) (by decide +kernel) ⟨Nat.le_of_ble_eq_true rfl, Nat.le_of_ble_eq_true rfl⟩, hts (.static yX6_cellOf) (by decide +kernel), trivial⟩ hK hNW hP rfl hl.1 rfl (Nat.le_of_ble_eq_true rfl) dX5_helpFrom_6 ⟨Nat.zero_le _, Nat.zero_le _⟩ ?_
  refine j_iald hx hb hK hP k32 1 h32 rfl ⟨by omega, by omega⟩ (Nat.le_of_ble_eq_true rfl) dX5_helpFrom_9 ?_
  exact hret ls 10 _ dX5_helpFrom_10 rfl

set_option maxHeartbeats 4000000 in
set_option maxRecDepth 100000 in
theorem c_X5_postOnWay {l : Launch} {D : va_G} {C : Nat → ClassId} {q : Nat → Nat} {w : va_W} {hp nx : Int → Int} (hk9 : WkW q C w hp nx) {g : Int → Int} (hw : PlW q C w g) (hg : Wf g) (nok : ∀ p x : Int, 0 ≤ p → p < g 0 → 0 ≤ x → x < 48 → nx (p * 48 + x) = (nxp g p x).2) {pp ss : Int} (hp0 : 0 ≤ pp ∧ pp < g 0) (hs : 0 ≤ ss ∧ ss < 48) : CR l yX5_postOnWay wsX5_postOnWay 1 21 D C [.ref (q 31), .int (iI (pp)), .int (iI (ss))] (w) (.int (iI (wayF g pp ss))) := by
  obtain ⟨⟨k31, h31⟩, ⟨k32, h32⟩, ⟨k33, h33⟩⟩ := id hk9
  obtain ⟨⟨k16, ln, nd, h16⟩, ⟨k17, f17, h17, e17⟩, ⟨k18, f18, h18, e18⟩, ⟨k19, f19, h19, e19⟩, ⟨k20, f20, h20, e20⟩, ⟨k21, f21, h21, e21⟩, ⟨k22, f22, h22, e22⟩, ⟨k23, f23, h23, e23⟩, ⟨k24, f24, h24, e24⟩, ⟨k25, f25, h25, e25⟩, ⟨k26, f26, h26, e26⟩, ⟨k27, f27, h27, e27⟩⟩ := id hw
  refine CR_of (cc := cX5_postOnWay) (maxL := 7) (by decide) rfl (Nat.le_of_ble_eq_true rfl) ?_
  intro p e s m below meth c Q ls hx hb hml hown hts hK hNW hl hP hret
  have hl : lv_has ls 7 [(0, .ref (q 31)), (1, .int (iI (pp))), (2, .int (iI (ss)))] := hl
  have n := Wf_n hg
  refine lv_iload_n hx hb dX5_postOnWay_0 rfl (lv_at hl 1 rfl) ?_
  refine lv_istore_n (lv' := [(3, .int (iI (pp))), (0, .ref (q 31)), (1, .int (iI (pp))), (2, .int (iI (ss)))]) hx hb dX5_postOnWay_1 rfl hl (by decide) rfl (fun ls hl => ?_)
  refine lv_iconst (v := iI (0)) hx hb dX5_postOnWay_2 rfl ?_
  refine lv_istore (lv' := [(4, .int (iI (0))), (3, .int (iI (pp))), (0, .ref (q 31)), (1, .int (iI (pp))), (2, .int (iI (ss)))]) hx hb dX5_postOnWay_3 hl (by decide) rfl (fun ls hl => ?_)
  refine lv_iconst (v := iI (0)) hx hb dX5_postOnWay_5 rfl ?_
  refine lv_istore (lv' := [(5, .int (iI (0))), (4, .int (iI (0))), (3, .int (iI (pp))), (0, .ref (q 31)), (1, .int (iI (pp))), (2, .int (iI (ss)))]) hx hb dX5_postOnWay_6 hl (by decide) rfl (fun ls hl => ?_)
  have L8 : ∀ (n : Nat) (i : Int) (pa : Int) (ar : Int) (ls : Array Slot), (0 ≤ i ∧ i ≤ ss + 1) → (cw g pp i.toNat = (pa, ar)) → ((ss + 1 - i).toNat < n) → (lv_has ls 7 [(5, .int (iI (i))), (4, .int (iI (ar))), (3, .int (iI (pa))), (0, .ref (q 31)), (1, .int (iI (pp))), (2, .int (iI (ss)))]) → W p l e (rmN 1 21) s m ([.ref (q 31), .int (iI (pp)), .int (iI (ss))] : List Value).toArray below meth c s.heap [] 0 0 Q (F0 m 8 ls []) := by
    intro n
    induction n with
    | zero => intro i pa ar ls i1 i2 hn; exact absurd hn (Nat.not_lt_zero _)
    | succ n ih8 =>
      intro i pa ar ls i1 i2 hn hl
      have hn8 := hn
      have ci := cw_in hg hp0.1 hp0.2 i.toNat (by omega)
      rw [i2] at ci
      have ci : 0 ≤ pa ∧ pa < g 0 ∧ 0 ≤ ar ∧ ar ≤ (i.toNat : Int) + 4 := ci
      refine lv_iload hx hb dX5_postOnWay_8 (lv_at hl 0 rfl) ?_
      refine lv_iload_n hx hb dX5_postOnWay_10 rfl (lv_at hl 5 rfl) ?_
      refine j_icmp_gt (tgt := 68) hx hb dX5_postOnWay_11 rfl ⟨by omega, by omega⟩ ⟨by omega, by omega⟩ (fun c11 => ?_) (fun c11 => ?_)
      · skip
        refine lv_iload_n hx hb dX5_postOnWay_68 rfl (lv_at hl 5 rfl) ?_
        refine lv_iload hx hb dX5_postOnWay_69 (lv_at hl 1 rfl) ?_
        refine j_icmp_ge (tgt := 79) hx hb dX5_postOnWay_71 rfl ⟨by omega, by omega⟩ ⟨by omega, by omega⟩ (fun c71 => ?_) (fun c71 => ?_)
        · skip
          refine lv_iload_n hx hb dX5_postOnWay_79 rfl (lv_at hl 2 rfl) ?_
          exact hret ls 80 _ dX5_postOnWay_80 (by unfold wayF; rw [show ss + 1 = i by omega, i2]; first | (exact congrArg iI (if_pos (by show ss < ar; omega)).symm; done) | (exact congrArg iI (if_neg (by show ¬ ss < ar; omega)).symm; done))
        · skip
          refine lv_bipush (v := iI (9)) hx hb dX5_postOnWay_74 (by decide) ?_
          refine lv_goto (tgt := 80) hx hb dX5_postOnWay_76 rfl ?_
          exact hret ls 80 _ dX5_postOnWay_80 (by unfold wayF; rw [show ss + 1 = i by omega, i2]; first | (exact congrArg iI (if_pos (by show ss < ar; omega)).symm; done) | (exact congrArg iI (if_neg (by show ¬ ss < ar; omega)).symm; done))
      · skip
        refine lv_iload hx hb dX5_postOnWay_14 (lv_at hl 0 rfl) ?_
        refine lv_bipush (v := iI (48)) hx hb dX5_postOnWay_16 (by decide) ?_
        refine j_icmp_ge (tgt := 68) hx hb dX5_postOnWay_18 rfl ⟨by omega, by omega⟩ ⟨by decide, by decide⟩ (fun c18 => ?_) (fun c18 => ?_)
        · skip
          exact absurd c18 (by omega)
        · skip
          have nr := nxp_in hg (p := pa) (t := i) (by omega) (by omega) (by omega) (by omega)
          refine lv_aload_n hx hb dX5_postOnWay_21 rfl (lv_at hl 3 rfl) ?_
          refine va_get (D := D) (ci := 5) (v := .ref (q 33)) (C := RX5) (T := TX5) (N := 4) hx hb hts (by decide +kernel) hown hK hP k31 h31 rfl 3 (by decide) (hts (.fieldLink RX5 23 "BreakSetter$Walker" "next" "[I") (by decide +kernel)) (fun _ h9 => h9) rfl dX5_postOnWay_22 ?_
          refine lv_iload_n hx hb dX5_postOnWay_25 rfl (lv_at hl 2 rfl) ?_
          refine lv_iload hx hb dX5_postOnWay_26 (lv_at hl 0 rfl) ?_
          refine CR_callN (As := [.int (iI (pa)), .int (iI (i))]) (rest := [.ref (q 33)]) ⟨hx, hb, hml, hown, hts⟩ c_X6_cellOf ⟨va_cnB 2 hts ggX5_postOnWay_X6_cellOf rfl rfl rfl hNW.2.1 (hts (.initialized RX6) (by decide +kernel)) (by decide +kernel) ⟨Nat.le_of_ble_eq_true rfl, Nat.le_of_ble_eq_true rfl⟩, hts (.static yX6_cellOf) (by decide +kernel), trivial⟩ hK hNW hP rfl hl.1 rfl (Nat.le_of_ble_eq_true rfl) dX5_postOnWay_28 ⟨Nat.zero_le _, Nat.zero_le _⟩ ?_
          refine j_iald hx hb hK hP k33 1 h33 rfl ⟨by omega, by omega⟩ (Nat.le_of_ble_eq_true rfl) dX5_postOnWay_31 ?_
          refine W_wen (y := iI (nxp g pa i).2) (congrArg iI (nok pa i (by omega) (by omega) (by omega) (by omega))) ?_
          refine lv_istore (lv' := [(6, .int (iI ((nxp g pa i).2))), (5, .int (iI (i))), (4, .int (iI (ar))), (3, .int (iI (pa))), (0, .ref (q 31)), (1, .int (iI (pp))), (2, .int (iI (ss)))]) hx hb dX5_postOnWay_32 hl (by decide) rfl (fun ls hl => ?_)
          refine lv_iload hx hb dX5_postOnWay_34 (lv_at hl 1 rfl) ?_
          refine lv_iload hx hb dX5_postOnWay_36 (lv_at hl 2 rfl) ?_
          refine j_icmp_lt (tgt := 62) hx hb dX5_postOnWay_38 rfl ⟨by omega, by omega⟩ ⟨by omega, by omega⟩ (fun c38 => ?_) (fun c38 => ?_)
          · skip
            refine j_iinc (k := 1) (lv' := [(5, .int (iI (i + 1))), (6, .int (iI ((nxp g pa i).2))), (4, .int (iI (ar))), (3, .int (iI (pa))), (0, .ref (q 31)), (1, .int (iI (pp))), (2, .int (iI (ss)))]) hx hb dX5_postOnWay_62 hl rfl (by decide) rfl (fun ls hl => ?_)
            refine lv_goto (tgt := 8) hx hb dX5_postOnWay_65 rfl ?_
            exact ih8 (i + 1) pa ar ls (by omega) (by rw [cw_s i1.1, i2]; (exact if_neg (fun q => by have q1 : ar ≤ i := q.1; omega); done)) (by omega) (lv_sub hl [0, 2, 3, 4, 5, 6] rfl)
          · skip
            refine lv_iload hx hb dX5_postOnWay_41 (lv_at hl 0 rfl) ?_
            refine lv_iload_n hx hb dX5_postOnWay_43 rfl (lv_at hl 3 rfl) ?_
            refine j_icmp_eq (tgt := 62) hx hb dX5_postOnWay_44 rfl ⟨by omega, by omega⟩ ⟨by omega, by omega⟩ (fun c44 => ?_) (fun c44 => ?_)
            · skip
              refine j_iinc (k := 1) (lv' := [(5, .int (iI (i + 1))), (6, .int (iI ((nxp g pa i).2))), (4, .int (iI (ar))), (3, .int (iI (pa))), (0, .ref (q 31)), (1, .int (iI (pp))), (2, .int (iI (ss)))]) hx hb dX5_postOnWay_62 hl rfl (by decide) rfl (fun ls hl => ?_)
              refine lv_goto (tgt := 8) hx hb dX5_postOnWay_65 rfl ?_
              exact ih8 (i + 1) pa ar ls (by omega) (by rw [cw_s i1.1, i2]; first | (exact if_pos ⟨by show ar ≤ i; omega, c44⟩; done) | (exact if_neg (fun q => q.2 c44); done) | (exact if_neg (fun q => by have q1 : ar ≤ i := q.1; omega); done)) (by omega) (lv_sub hl [0, 2, 3, 4, 5, 6] rfl)
            · skip
              refine lv_iload hx hb dX5_postOnWay_47 (lv_at hl 0 rfl) ?_
              refine lv_istore_n (lv' := [(3, .int (iI ((nxp g pa i).2))), (6, .int (iI ((nxp g pa i).2))), (5, .int (iI (i))), (4, .int (iI (ar))), (0, .ref (q 31)), (1, .int (iI (pp))), (2, .int (iI (ss)))]) hx hb dX5_postOnWay_49 rfl hl (by decide) rfl (fun ls hl => ?_)
              refine lv_iload hx hb dX5_postOnWay_50 (lv_at hl 2 rfl) ?_
              refine lv_aload_n hx hb dX5_postOnWay_52 rfl (lv_at hl 4 rfl) ?_
              refine va_get (D := D) (ci := 5) (v := .ref (q 16)) (C := RX5) (T := TX5) (N := 4) hx hb hts (by decide +kernel) hown hK hP k31 h31 rfl 0 (by decide) (hts (.fieldLink RX5 9 "BreakSetter$Walker" "plan" "LBreakSetter$Plan;") (by decide +kernel)) (fun _ h9 => h9) rfl dX5_postOnWay_53 ?_
              refine va_get (D := D) (ci := 1) (v := .int (iI (g 1))) (C := RX1) (T := TX1) (N := 17) hx hb hts (by decide +kernel) hown hK hP k16 h16 rfl 1 (by decide) (hts (.fieldLink RX5 45 "BreakSetter$Plan" "walk" "I") (by decide +kernel)) (fun _ h9 => h9) rfl dX5_postOnWay_56 ?_
              refine j_iadd hx hb dX5_postOnWay_59 ?_
              refine lv_istore (lv' := [(4, .int (iI (i + (g 1)))), (3, .int (iI ((nxp g pa i).2))), (6, .int (iI ((nxp g pa i).2))), (5, .int (iI (i))), (0, .ref (q 31)), (1, .int (iI (pp))), (2, .int (iI (ss)))]) hx hb dX5_postOnWay_60 hl (by decide) rfl (fun ls hl => ?_)
              refine j_iinc (k := 3) (lv' := [(5, .int (iI (i + 1))), (4, .int (iI (i + (g 1)))), (3, .int (iI ((nxp g pa i).2))), (6, .int (iI ((nxp g pa i).2))), (0, .ref (q 31)), (1, .int (iI (pp))), (2, .int (iI (ss)))]) hx hb dX5_postOnWay_62 hl rfl (by decide) rfl (fun ls hl => ?_)
              refine lv_goto (tgt := 8) hx hb dX5_postOnWay_65 rfl ?_
              exact ih8 (i + 1) ((nxp g pa i).2) (i + (g 1)) ls (by omega) (by rw [cw_s i1.1, i2]; first | (exact if_pos ⟨by show ar ≤ i; omega, c44⟩; done) | (exact if_neg (fun q => q.2 c44); done) | (exact if_neg (fun q => by have q1 : ar ≤ i := q.1; omega); done)) (by omega) (lv_sub hl [0, 1, 2, 4, 5, 6] rfl)
  exact L8 _ 0 pp 0 ls (by omega) rfl (Nat.lt_succ_self _) (lv_sub hl [0, 1, 2, 3, 4, 5] rfl)

set_option maxHeartbeats 4000000 in
set_option maxRecDepth 100000 in
theorem c_X5_plotWays {l : Launch} {D : va_G} {C : Nat → ClassId} {q : Nat → Nat} {wr : va_W} {g : Int → Int} (hw : RoW q C wr g) (hg : Wf g) {hp nx : Int → Int} : CV (S := (Int → Int) × (Int → Int)) l yX5_plotWays wsX5_plotWays 2 51 D C [.ref (q 31)] (wWk q C hp nx ++ wr) (fun u => wWk q C (u.1) (u.2) ++ wr) (fun u => ∀ p x : Int, 0 ≤ p → p < g 0 → 0 ≤ x → x < 48 → u.1 (p * 48 + x) = Vf g p x ∧ u.2 (p * 48 + x) = (nxp g p x).2) := by
  obtain ⟨⟨⟨k16, ln, nd, h16⟩, ⟨k17, f17, h17, e17⟩, ⟨k18, f18, h18, e18⟩, ⟨k19, f19, h19, e19⟩, ⟨k20, f20, h20, e20⟩, ⟨k21, f21, h21, e21⟩, ⟨k22, f22, h22, e22⟩, ⟨k23, f23, h23, e23⟩, ⟨k24, f24, h24, e24⟩, ⟨k25, f25, h25, e25⟩, ⟨k26, f26, h26, e26⟩, ⟨k27, f27, h27, e27⟩⟩, ⟨k28, h28⟩, ⟨k29, f29, h29, e29⟩, ⟨k30, f30, h30, e30⟩⟩ := id hw
  refine CV_of (cc := cX5_plotWays) (maxL := 7) (by decide) rfl (Nat.le_of_ble_eq_true rfl) ?_
  intro p e s m below meth c A Q ls hx hb hml hown hts hK hNW hA hl hP hD hS hret
  have hl : lv_has ls 7 [(0, .ref (q 31))] := hl
  have n := Wf_n hg
  refine lv_bipush (v := iI (47)) hx hb dX5_plotWays_0 (by decide) ?_
  refine lv_istore_n (lv' := [(1, .int (iI (47))), (0, .ref (q 31))]) hx hb dX5_plotWays_2 rfl hl (by decide) rfl (fun ls hl => ?_)
  have L3 : ∀ (n : Nat) (t : Int) (h2 : Int → Int) (n2 : Int → Int) (ls : Array Slot) (H : Heap) (locs : List Loc), (-1 ≤ t ∧ t ≤ 47) → ((∀ p x : Int, 0 ≤ p → p < g 0 → t < x → x < 48 → h2 (p * 48 + x) = Vf g p x)) → ((∀ p x : Int, 0 ≤ p → p < g 0 → t < x → x < 48 → n2 (p * 48 + x) = (nxp g p x).2)) → ((t + 1).toNat < n) → (lv_has ls 7 [(1, .int (iI (t))), (0, .ref (q 31))]) → (va_P D vwCl (wWk q C h2 n2 ++ wr) H) → (va_D A (wWk q C h2 n2 ++ wr)) → (va_S A s.heap H locs) → W p l e (rmN 2 51) s m ([.ref (q 31)] : List Value).toArray below meth c H locs 0 0 Q (F0 m 3 ls []) := by
    intro n
    induction n with
    | zero => intro t h2 n2 ls H locs t1 H2 N2 hn; exact absurd hn (Nat.not_lt_zero _)
    | succ n ih3 =>
      intro t h2 n2 ls H locs t1 H2 N2 hn hl hP hD hS
      have hn3 := hn
      refine lv_iload_n hx hb dX5_plotWays_3 rfl (lv_at hl 0 rfl) ?_
      refine j_if_lt (tgt := 151) hx hb dX5_plotWays_4 rfl ⟨by omega, by omega⟩ (fun c4 => ?_) (fun c4 => ?_)
      · skip
        exact hret H locs ls 151 (h2, n2) dX5_plotWays_151 (fun p x a b c d => ⟨H2 p x a b (by omega) d, N2 p x a b (by omega) d⟩) hP hD hS
      · skip
        refine lv_iconst (v := iI (0)) hx hb dX5_plotWays_7 rfl ?_
        refine lv_istore_n (lv' := [(2, .int (iI (0))), (1, .int (iI (t))), (0, .ref (q 31))]) hx hb dX5_plotWays_8 rfl hl (by decide) rfl (fun ls hl => ?_)
        have L9 : ∀ (n : Nat) (p0 : Int) (h3 : Int → Int) (n3 : Int → Int) (ls : Array Slot) (H : Heap) (locs : List Loc), (0 ≤ p0 ∧ p0 ≤ g 0) → ((∀ p x : Int, 0 ≤ p → p < g 0 → t < x → x < 48 → h3 (p * 48 + x) = Vf g p x)) → ((∀ p x : Int, 0 ≤ p → p < g 0 → t < x → x < 48 → n3 (p * 48 + x) = (nxp g p x).2)) → (∀ p : Int, 0 ≤ p → p < p0 → h3 (p * 48 + t) = Vf g p t) → (∀ p : Int, 0 ≤ p → p < p0 → n3 (p * 48 + t) = (nxp g p t).2) → ((g 0 - p0).toNat < n) → (lv_has ls 7 [(2, .int (iI (p0))), (1, .int (iI (t))), (0, .ref (q 31))]) → (va_P D vwCl (wWk q C h3 n3 ++ wr) H) → (va_D A (wWk q C h3 n3 ++ wr)) → (va_S A s.heap H locs) → W p l e (rmN 2 51) s m ([.ref (q 31)] : List Value).toArray below meth c H locs 0 0 Q (F0 m 9 ls []) := by
          intro n
          induction n with
          | zero => intro p0 h3 n3 ls H locs p1 H2 N2 H3 N3 hn; exact absurd hn (Nat.not_lt_zero _)
          | succ n ih9 =>
            intro p0 h3 n3 ls H locs p1 H2 N2 H3 N3 hn hl hP hD hS
            have hn9 := hn
            refine lv_iload_n hx hb dX5_plotWays_9 rfl (lv_at hl 0 rfl) ?_
            refine lv_aload_n hx hb dX5_plotWays_10 rfl (lv_at hl 2 rfl) ?_
            refine va_get (D := D) (ci := 5) (v := .ref (q 16)) (C := RX5) (T := TX5) (N := 4) hx hb hts (by decide +kernel) hown hK hP 0 rfl rfl 0 (by decide) (hts (.fieldLink RX5 9 "BreakSetter$Walker" "plan" "LBreakSetter$Plan;") (by decide +kernel)) (fun _ h9 => h9) rfl dX5_plotWays_11 ?_
            refine va_get (D := D) (ci := 1) (v := .int (iI (g 0))) (C := RX1) (T := TX1) (N := 17) hx hb hts (by decide +kernel) hown hK hP (k16 + 3) h16 rfl 0 (by decide) (hts (.fieldLink RX5 26 "BreakSetter$Plan" "posts" "I") (by decide +kernel)) (fun _ h9 => h9) rfl dX5_plotWays_14 ?_
            refine j_icmp_ge (tgt := 145) hx hb dX5_plotWays_17 rfl ⟨by omega, by omega⟩ ⟨by omega, by omega⟩ (fun c17 => ?_) (fun c17 => ?_)
            · skip
              refine j_iinc (k := 1) (lv' := [(1, .int (iI (t + (-1)))), (2, .int (iI (p0))), (0, .ref (q 31))]) hx hb dX5_plotWays_145 hl rfl (by decide) rfl (fun ls hl => ?_)
              refine lv_goto (tgt := 3) hx hb dX5_plotWays_148 rfl ?_
              exact ih3 (t + (-1)) h3 n3 ls H locs (by omega) (HC_dn (V := Vf g) H2 (fun p a b => H3 p a (by omega))) (HC_dn (V := fun p x => (nxp g p x).2) N2 (fun p a b => N3 p a (by omega))) (by omega) (lv_sub hl [0, 2] rfl) hP hD hS
            · skip
              refine lv_iload_n hx hb dX5_plotWays_20 rfl (lv_at hl 0 rfl) ?_
              refine lv_iload_n hx hb dX5_plotWays_21 rfl (lv_at hl 1 rfl) ?_
              refine CR_callN (As := [.int (iI (p0)), .int (iI (t))]) (rest := []) ⟨hx, hb, hml, hown, hts⟩ c_X6_cellOf ⟨va_cnB 2 hts ggX5_plotWays_X6_cellOf rfl rfl rfl hNW.2.1 (hts (.initialized RX6) (by decide +kernel)) (by decide +kernel) ⟨Nat.le_of_ble_eq_true rfl, Nat.le_of_ble_eq_true rfl⟩, hts (.static yX6_cellOf) (by decide +kernel), trivial⟩ hK hNW hP rfl hl.1 rfl (Nat.le_of_ble_eq_true rfl) dX5_plotWays_22 ⟨Nat.zero_le _, Nat.zero_le _⟩ ?_
              refine lv_istore_n (lv' := [(3, .int (iI (p0 * 48 + t))), (2, .int (iI (p0))), (1, .int (iI (t))), (0, .ref (q 31))]) hx hb dX5_plotWays_25 rfl hl (by decide) rfl (fun ls hl => ?_)
              refine lv_aload_n hx hb dX5_plotWays_26 rfl (lv_at hl 3 rfl) ?_
              refine va_get (D := D) (ci := 5) (v := .ref (q 28)) (C := RX5) (T := TX5) (N := 4) hx hb hts (by decide +kernel) hown hK hP 0 rfl rfl 1 (by decide) (hts (.fieldLink RX5 15 "BreakSetter$Walker" "roster" "LBreakSetter$Roster;") (by decide +kernel)) (fun _ h9 => h9) rfl dX5_plotWays_27 ?_
              refine lv_iload_n hx hb dX5_plotWays_30 rfl (lv_at hl 0 rfl) ?_
              refine CR_callV (As := [.int (iI (p0 * 48 + t))]) (rest := []) ⟨hx, hb, hml, hown, hts⟩ (c_X3_shortOf (RoW_add hw _) hg (by omega)) (cwV 1 hts gX5_plotWays_X3_shortOf rfl rfl rfl (by decide +kernel) ⟨Nat.le_of_ble_eq_true rfl, Nat.le_of_ble_eq_true rfl⟩) (q0 := (k28 + 3)) h28 rfl rfl hK hNW hP rfl hl.1 rfl (Nat.le_of_ble_eq_true rfl) dX5_plotWays_31 ⟨Nat.zero_le _, Nat.zero_le _⟩ ?_
              refine W_wen (y := iI (sh g p0 t)) (congrArg iI (shc_at (by omega) (by omega))) ?_
              have sr := sh_rng hg (p := p0) (t := t) (by omega) (by omega) (by omega) (by omega)
              refine j_if_le (tgt := 41) hx hb dX5_plotWays_34 rfl ⟨by omega, by omega⟩ (fun c34 => ?_) (fun c34 => ?_)
              · skip
                refine lv_iconst (v := iI (0)) hx hb dX5_plotWays_41 rfl ?_
                have J42 : ∀ (hw4 : Int) (ls : Array Slot) (H : Heap) (locs : List Loc), (hw4 = hlp g p0 t) → (lv_has ls 7 [(3, .int (iI (p0 * 48 + t))), (2, .int (iI (p0))), (1, .int (iI (t))), (0, .ref (q 31))]) → (va_P D vwCl (wWk q C h3 n3 ++ wr) H) → (va_D A (wWk q C h3 n3 ++ wr)) → (va_S A s.heap H locs) → W p l e (rmN 2 51) s m ([.ref (q 31)] : List Value).toArray below meth c H locs 0 0 Q (F0 m 42 ls [.int (iI (hw4))]) := by
                  intro hw4 ls H locs e4 hl hP hD hS
                  refine lv_istore (lv' := [(4, .int (iI (hw4))), (3, .int (iI (p0 * 48 + t))), (2, .int (iI (p0))), (1, .int (iI (t))), (0, .ref (q 31))]) hx hb dX5_plotWays_42 hl (by decide) rfl (fun ls hl => ?_)
                  refine lv_aload_n hx hb dX5_plotWays_44 rfl (lv_at hl 4 rfl) ?_
                  refine va_get (D := D) (ci := 5) (v := .ref (q 32)) (C := RX5) (T := TX5) (N := 4) hx hb hts (by decide +kernel) hown hK hP 0 rfl rfl 2 (by decide) (hts (.fieldLink RX5 19 "BreakSetter$Walker" "help" "[I") (by decide +kernel)) (fun _ h9 => h9) rfl dX5_plotWays_45 ?_
                  refine lv_iload_n hx hb dX5_plotWays_48 rfl (lv_at hl 1 rfl) ?_
                  refine lv_iload hx hb dX5_plotWays_49 (lv_at hl 0 rfl) ?_
                  refine lv_aload_n hx hb dX5_plotWays_51 rfl (lv_at hl 4 rfl) ?_
                  refine lv_iload_n hx hb dX5_plotWays_52 rfl (lv_at hl 2 rfl) ?_
                  refine lv_iload_n hx hb dX5_plotWays_53 rfl (lv_at hl 3 rfl) ?_
                  refine lv_iconst (v := iI (1)) hx hb dX5_plotWays_54 rfl ?_
                  refine j_iadd hx hb dX5_plotWays_55 ?_
                  refine CR_callV (As := [.int (iI (p0)), .int (iI (t + 1))]) (rest := [.int (iI (hw4)), .int (iI (p0 * 48 + t)), .ref (q 32)]) ⟨hx, hb, hml, hown, hts⟩ (c_X5_helpAt WkW_mk (by omega) ⟨by omega, by omega⟩) (cwV 2 hts gX5_plotWays_X5_helpAt rfl rfl rfl (by decide +kernel) ⟨Nat.le_of_ble_eq_true rfl, Nat.le_of_ble_eq_true rfl⟩) (q0 := 0) rfl rfl rfl hK hNW hP rfl hl.1 rfl (Nat.le_of_ble_eq_true rfl) dX5_plotWays_56 ⟨Nat.zero_le _, Nat.zero_le _⟩ ?_
                  refine W_wen (y := iI (Vf g p0 (t + 1))) (congrArg iI (hpA_at H2 (by omega) (by omega) (by omega))) ?_
                  refine j_iadd hx hb dX5_plotWays_59 ?_
                  refine j_iast hx hb hK hP hD hS 1 1 rfl rfl ⟨by omega, by omega⟩ (Nat.le_of_ble_eq_true rfl) dX5_plotWays_60 (fun H locs hP hD hS => ?_)
                  have hP : va_P D vwCl (wWk q C (up h3 (p0 * 48 + t) (hw4 + (Vf g p0 (t + 1)))) n3 ++ wr) H := hP
                  have hD : va_D A (wWk q C (up h3 (p0 * 48 + t) (hw4 + (Vf g p0 (t + 1)))) n3 ++ wr) := hD
                  rw [show hw4 + Vf g p0 (t + 1) = sty g p0 t by unfold sty; rw [e4]] at hP hD
                  refine lv_aload_n hx hb dX5_plotWays_61 rfl (lv_at hl 4 rfl) ?_
                  refine va_get (D := D) (ci := 5) (v := .ref (q 33)) (C := RX5) (T := TX5) (N := 4) hx hb hts (by decide +kernel) hown hK hP 0 rfl rfl 3 (by decide) (hts (.fieldLink RX5 23 "BreakSetter$Walker" "next" "[I") (by decide +kernel)) (fun _ h9 => h9) rfl dX5_plotWays_62 ?_
                  refine lv_iload_n hx hb dX5_plotWays_65 rfl (lv_at hl 1 rfl) ?_
                  refine lv_iload_n hx hb dX5_plotWays_66 rfl (lv_at hl 2 rfl) ?_
                  refine j_iast hx hb hK hP hD hS 2 1 rfl rfl ⟨by omega, by omega⟩ (Nat.le_of_ble_eq_true rfl) dX5_plotWays_67 (fun H locs hP hD hS => ?_)
                  have hP : va_P D vwCl (wWk q C (up h3 (p0 * 48 + t) (sty g p0 t)) (up n3 (p0 * 48 + t) p0) ++ wr) H := hP
                  have hD : va_D A (wWk q C (up h3 (p0 * 48 + t) (sty g p0 t)) (up n3 (p0 * 48 + t) p0) ++ wr) := hD
                  refine lv_iconst (v := iI (0)) hx hb dX5_plotWays_68 rfl ?_
                  refine lv_istore (lv' := [(5, .int (iI (0))), (4, .int (iI (hw4))), (3, .int (iI (p0 * 48 + t))), (2, .int (iI (p0))), (1, .int (iI (t))), (0, .ref (q 31))]) hx hb dX5_plotWays_69 hl (by decide) rfl (fun ls hl => ?_)
                  have L71 : ∀ (n : Nat) (o : Int) (v : Int) (y : Int) (ls : Array Slot) (H : Heap) (locs : List Loc), (0 ≤ o ∧ o ≤ g 0) → (wkn (Vf g) p0 (t + g 1) (sty g p0 t, p0) o.toNat = (v, y)) → ((g 0 - o).toNat < n) → (lv_has ls 7 [(5, .int (iI (o))), (4, .int (iI (hw4))), (3, .int (iI (p0 * 48 + t))), (2, .int (iI (p0))), (1, .int (iI (t))), (0, .ref (q 31))]) → (va_P D vwCl (wWk q C (up h3 (p0 * 48 + t) v) (up n3 (p0 * 48 + t) y) ++ wr) H) → (va_D A (wWk q C (up h3 (p0 * 48 + t) v) (up n3 (p0 * 48 + t) y) ++ wr)) → (va_S A s.heap H locs) → W p l e (rmN 2 51) s m ([.ref (q 31)] : List Value).toArray below meth c H locs 0 0 Q (F0 m 71 ls []) := by
                    intro n
                    induction n with
                    | zero => intro o v y ls H locs o1 h4 hn; exact absurd hn (Nat.not_lt_zero _)
                    | succ n ih71 =>
                      intro o v y ls H locs o1 h4 hn hl hP hD hS
                      have hn71 := hn
                      have vr := wkn_rng hg (p := p0) (t := t) (by omega) (by omega) o.toNat
                      rw [h4] at vr
                      have vr : 0 ≤ v ∧ v ≤ 60 := vr
                      have ro := Vf_r hg (p := o) (t := t + g 1) (by omega)
                      refine lv_iload hx hb dX5_plotWays_71 (lv_at hl 0 rfl) ?_
                      refine lv_aload_n hx hb dX5_plotWays_73 rfl (lv_at hl 5 rfl) ?_
                      refine va_get (D := D) (ci := 5) (v := .ref (q 16)) (C := RX5) (T := TX5) (N := 4) hx hb hts (by decide +kernel) hown hK hP 0 rfl rfl 0 (by decide) (hts (.fieldLink RX5 9 "BreakSetter$Walker" "plan" "LBreakSetter$Plan;") (by decide +kernel)) (fun _ h9 => h9) rfl dX5_plotWays_74 ?_
                      refine va_get (D := D) (ci := 1) (v := .int (iI (g 0))) (C := RX1) (T := TX1) (N := 17) hx hb hts (by decide +kernel) hown hK hP (k16 + 3) h16 rfl 0 (by decide) (hts (.fieldLink RX5 26 "BreakSetter$Plan" "posts" "I") (by decide +kernel)) (fun _ h9 => h9) rfl dX5_plotWays_77 ?_
                      refine j_icmp_ge (tgt := 139) hx hb dX5_plotWays_80 rfl ⟨by omega, by omega⟩ ⟨by omega, by omega⟩ (fun c80 => ?_) (fun c80 => ?_)
                      · skip
                        have hv : v = Vf g p0 t ∧ y = (nxp g p0 t).2 := by rw [Vf_eq hg (by omega) (by omega)]; unfold nxp; rw [show (g 0).toNat = o.toNat by omega, h4]; exact ⟨rfl, rfl⟩
                        refine j_iinc (k := 3) (lv' := [(2, .int (iI (p0 + 1))), (5, .int (iI (o))), (4, .int (iI (hw4))), (3, .int (iI (p0 * 48 + t))), (1, .int (iI (t))), (0, .ref (q 31))]) hx hb dX5_plotWays_139 hl rfl (by decide) rfl (fun ls hl => ?_)
                        refine lv_goto (tgt := 9) hx hb dX5_plotWays_142 rfl ?_
                        exact ih9 (p0 + 1) (up h3 (p0 * 48 + t) v) (up n3 (p0 * 48 + t) y) ls H locs (by omega) (fun p x a b c d => by rw [up_n _ _ (by omega)]; exact H2 p x a b c d) (fun p x a b c d => by rw [up_n _ _ (by omega)]; exact N2 p x a b c d) (fa_step (fun p a b => by rw [up_n _ _ (by omega)]; exact H3 p a b) (by rw [up_s]; exact hv.1)) (fa_step (fun p a b => by rw [up_n _ _ (by omega)]; exact N3 p a b) (by rw [up_s]; exact hv.2)) (by omega) (lv_sub hl [0, 4, 5] rfl) hP hD hS
                      · skip
                        refine lv_aload_n hx hb dX5_plotWays_83 rfl (lv_at hl 5 rfl) ?_
                        refine lv_iload hx hb dX5_plotWays_84 (lv_at hl 0 rfl) ?_
                        refine lv_iload_n hx hb dX5_plotWays_86 rfl (lv_at hl 4 rfl) ?_
                        refine lv_aload_n hx hb dX5_plotWays_87 rfl (lv_at hl 5 rfl) ?_
                        refine va_get (D := D) (ci := 5) (v := .ref (q 16)) (C := RX5) (T := TX5) (N := 4) hx hb hts (by decide +kernel) hown hK hP 0 rfl rfl 0 (by decide) (hts (.fieldLink RX5 9 "BreakSetter$Walker" "plan" "LBreakSetter$Plan;") (by decide +kernel)) (fun _ h9 => h9) rfl dX5_plotWays_88 ?_
                        refine va_get (D := D) (ci := 1) (v := .int (iI (g 1))) (C := RX1) (T := TX1) (N := 17) hx hb hts (by decide +kernel) hown hK hP (k16 + 3) h16 rfl 1 (by decide) (hts (.fieldLink RX5 45 "BreakSetter$Plan" "walk" "I") (by decide +kernel)) (fun _ h9 => h9) rfl dX5_plotWays_91 ?_
                        refine j_iadd hx hb dX5_plotWays_94 ?_
                        refine CR_callV (As := [.int (iI (o)), .int (iI (t + (g 1)))]) (rest := []) ⟨hx, hb, hml, hown, hts⟩ (c_X5_helpAt WkW_mk (by omega) ⟨by omega, by omega⟩) (cwV 2 hts gX5_plotWays_X5_helpAt rfl rfl rfl (by decide +kernel) ⟨Nat.le_of_ble_eq_true rfl, Nat.le_of_ble_eq_true rfl⟩) (q0 := 0) rfl rfl rfl hK hNW hP rfl hl.1 rfl (Nat.le_of_ble_eq_true rfl) dX5_plotWays_95 ⟨Nat.zero_le _, Nat.zero_le _⟩ ?_
                        refine W_wen (y := iI (Vf g o (t + g 1))) (congrArg iI (hpA_up H2 (by omega) (by omega) (by omega) (by omega))) ?_
                        refine lv_istore (lv' := [(6, .int (iI (Vf g o (t + g 1)))), (5, .int (iI (o))), (4, .int (iI (hw4))), (3, .int (iI (p0 * 48 + t))), (2, .int (iI (p0))), (1, .int (iI (t))), (0, .ref (q 31))]) hx hb dX5_plotWays_98 hl (by decide) rfl (fun ls hl => ?_)
                        refine lv_iload hx hb dX5_plotWays_100 (lv_at hl 1 rfl) ?_
                        refine lv_iload_n hx hb dX5_plotWays_102 rfl (lv_at hl 4 rfl) ?_
                        refine j_icmp_eq (tgt := 133) hx hb dX5_plotWays_103 rfl ⟨by omega, by omega⟩ ⟨by omega, by omega⟩ (fun c103 => ?_) (fun c103 => ?_)
                        · skip
                          refine j_iinc (k := 1) (lv' := [(5, .int (iI (o + 1))), (6, .int (iI (Vf g o (t + g 1)))), (4, .int (iI (hw4))), (3, .int (iI (p0 * 48 + t))), (2, .int (iI (p0))), (1, .int (iI (t))), (0, .ref (q 31))]) hx hb dX5_plotWays_133 hl rfl (by decide) rfl (fun ls hl => ?_)
                          refine lv_goto (tgt := 71) hx hb dX5_plotWays_136 rfl ?_
                          exact ih71 (o + 1) v y ls H locs (by omega) (by rw [wkn_s o1.1, h4]; unfold wk1; first | (exact if_pos ⟨c103, by show v < Vf g o (t + g 1); omega⟩; done) | (exact if_neg (fun q => by have q2 : v < Vf g o (t + g 1) := q.2; have q1 := q.1; omega); done)) (by omega) (lv_sub hl [0, 2, 3, 4, 5, 6] rfl) hP hD hS
                        · skip
                          refine lv_iload hx hb dX5_plotWays_106 (lv_at hl 0 rfl) ?_
                          refine lv_aload_n hx hb dX5_plotWays_108 rfl (lv_at hl 6 rfl) ?_
                          refine va_get (D := D) (ci := 5) (v := .ref (q 32)) (C := RX5) (T := TX5) (N := 4) hx hb hts (by decide +kernel) hown hK hP 0 rfl rfl 2 (by decide) (hts (.fieldLink RX5 19 "BreakSetter$Walker" "help" "[I") (by decide +kernel)) (fun _ h9 => h9) rfl dX5_plotWays_109 ?_
                          refine lv_iload_n hx hb dX5_plotWays_112 rfl (lv_at hl 3 rfl) ?_
                          refine j_iald hx hb hK hP 1 1 rfl rfl ⟨by omega, by omega⟩ (Nat.le_of_ble_eq_true rfl) dX5_plotWays_113 ?_
                          refine W_wen (y := iI v) (congrArg iI (up_s _ _ _)) ?_
                          refine j_icmp_le (tgt := 133) hx hb dX5_plotWays_114 rfl ⟨by omega, by omega⟩ ⟨by omega, by omega⟩ (fun c114 => ?_) (fun c114 => ?_)
                          · skip
                            refine j_iinc (k := 1) (lv' := [(5, .int (iI (o + 1))), (6, .int (iI (Vf g o (t + g 1)))), (4, .int (iI (hw4))), (3, .int (iI (p0 * 48 + t))), (2, .int (iI (p0))), (1, .int (iI (t))), (0, .ref (q 31))]) hx hb dX5_plotWays_133 hl rfl (by decide) rfl (fun ls hl => ?_)
                            refine lv_goto (tgt := 71) hx hb dX5_plotWays_136 rfl ?_
                            exact ih71 (o + 1) v y ls H locs (by omega) (by rw [wkn_s o1.1, h4]; unfold wk1; first | (exact if_pos ⟨c103, by show v < Vf g o (t + g 1); omega⟩; done) | (exact if_neg (fun q => by have q2 : v < Vf g o (t + g 1) := q.2; have q1 := q.1; omega); done)) (by omega) (lv_sub hl [0, 2, 3, 4, 5, 6] rfl) hP hD hS
                          · skip
                            refine lv_aload_n hx hb dX5_plotWays_117 rfl (lv_at hl 6 rfl) ?_
                            refine va_get (D := D) (ci := 5) (v := .ref (q 32)) (C := RX5) (T := TX5) (N := 4) hx hb hts (by decide +kernel) hown hK hP 0 rfl rfl 2 (by decide) (hts (.fieldLink RX5 19 "BreakSetter$Walker" "help" "[I") (by decide +kernel)) (fun _ h9 => h9) rfl dX5_plotWays_118 ?_
                            refine lv_iload_n hx hb dX5_plotWays_121 rfl (lv_at hl 3 rfl) ?_
                            refine lv_iload hx hb dX5_plotWays_122 (lv_at hl 0 rfl) ?_
                            refine j_iast hx hb hK hP hD hS 1 1 rfl rfl ⟨by omega, by omega⟩ (Nat.le_of_ble_eq_true rfl) dX5_plotWays_124 (fun H locs hP hD hS => ?_)
                            have hP : va_P D vwCl (wWk q C (up (up h3 (p0 * 48 + t) v) (p0 * 48 + t) (Vf g o (t + g 1))) (up n3 (p0 * 48 + t) y) ++ wr) H := hP
                            have hD : va_D A (wWk q C (up (up h3 (p0 * 48 + t) v) (p0 * 48 + t) (Vf g o (t + g 1))) (up n3 (p0 * 48 + t) y) ++ wr) := hD
                            refine lv_aload_n hx hb dX5_plotWays_125 rfl (lv_at hl 6 rfl) ?_
                            refine va_get (D := D) (ci := 5) (v := .ref (q 33)) (C := RX5) (T := TX5) (N := 4) hx hb hts (by decide +kernel) hown hK hP 0 rfl rfl 3 (by decide) (hts (.fieldLink RX5 23 "BreakSetter$Walker" "next" "[I") (by decide +kernel)) (fun _ h9 => h9) rfl dX5_plotWays_126 ?_
                            refine lv_iload_n hx hb dX5_plotWays_129 rfl (lv_at hl 3 rfl) ?_
                            refine lv_iload hx hb dX5_plotWays_130 (lv_at hl 1 rfl) ?_
                            refine j_iast hx hb hK hP hD hS 2 1 rfl rfl ⟨by omega, by omega⟩ (Nat.le_of_ble_eq_true rfl) dX5_plotWays_132 (fun H locs hP hD hS => ?_)
                            have hP : va_P D vwCl (wWk q C (up (up h3 (p0 * 48 + t) v) (p0 * 48 + t) (Vf g o (t + g 1))) (up (up n3 (p0 * 48 + t) y) (p0 * 48 + t) o) ++ wr) H := hP
                            have hD : va_D A (wWk q C (up (up h3 (p0 * 48 + t) v) (p0 * 48 + t) (Vf g o (t + g 1))) (up (up n3 (p0 * 48 + t) y) (p0 * 48 + t) o) ++ wr) := hD
                            refine j_iinc (k := 1) (lv' := [(5, .int (iI (o + 1))), (6, .int (iI (Vf g o (t + g 1)))), (4, .int (iI (hw4))), (3, .int (iI (p0 * 48 + t))), (2, .int (iI (p0))), (1, .int (iI (t))), (0, .ref (q 31))]) hx hb dX5_plotWays_133 hl rfl (by decide) rfl (fun ls hl => ?_)
                            refine lv_goto (tgt := 71) hx hb dX5_plotWays_136 rfl ?_
                            rw [up_up, up_up] at hP hD
                            exact ih71 (o + 1) (Vf g o (t + g 1)) o ls H locs (by omega) (by rw [wkn_s o1.1, h4]; unfold wk1; first | (exact if_pos ⟨c103, by show v < Vf g o (t + g 1); omega⟩; done) | (exact if_neg (fun q => by have q2 : v < Vf g o (t + g 1) := q.2; have q1 := q.1; omega); done)) (by omega) (lv_sub hl [0, 2, 3, 4, 5, 6] rfl) hP hD hS
                  exact L71 _ 0 (sty g p0 t) p0 ls H locs (by omega) rfl (Nat.lt_succ_self _) (lv_sub hl [0, 1, 2, 3, 4, 5] rfl) hP hD hS
                exact J42 0 ls H locs (by first | exact (bI_t (by omega)).symm | exact (bI_f (by omega)).symm)  (lv_sub hl [0, 1, 2, 3] rfl) hP hD hS
              · skip
                refine lv_iconst (v := iI (1)) hx hb dX5_plotWays_37 rfl ?_
                refine lv_goto (tgt := 42) hx hb dX5_plotWays_38 rfl ?_
                have J42 : ∀ (hw4 : Int) (ls : Array Slot) (H : Heap) (locs : List Loc), (hw4 = hlp g p0 t) → (lv_has ls 7 [(3, .int (iI (p0 * 48 + t))), (2, .int (iI (p0))), (1, .int (iI (t))), (0, .ref (q 31))]) → (va_P D vwCl (wWk q C h3 n3 ++ wr) H) → (va_D A (wWk q C h3 n3 ++ wr)) → (va_S A s.heap H locs) → W p l e (rmN 2 51) s m ([.ref (q 31)] : List Value).toArray below meth c H locs 0 0 Q (F0 m 42 ls [.int (iI (hw4))]) := by
                  intro hw4 ls H locs e4 hl hP hD hS
                  refine lv_istore (lv' := [(4, .int (iI (hw4))), (3, .int (iI (p0 * 48 + t))), (2, .int (iI (p0))), (1, .int (iI (t))), (0, .ref (q 31))]) hx hb dX5_plotWays_42 hl (by decide) rfl (fun ls hl => ?_)
                  refine lv_aload_n hx hb dX5_plotWays_44 rfl (lv_at hl 4 rfl) ?_
                  refine va_get (D := D) (ci := 5) (v := .ref (q 32)) (C := RX5) (T := TX5) (N := 4) hx hb hts (by decide +kernel) hown hK hP 0 rfl rfl 2 (by decide) (hts (.fieldLink RX5 19 "BreakSetter$Walker" "help" "[I") (by decide +kernel)) (fun _ h9 => h9) rfl dX5_plotWays_45 ?_
                  refine lv_iload_n hx hb dX5_plotWays_48 rfl (lv_at hl 1 rfl) ?_
                  refine lv_iload hx hb dX5_plotWays_49 (lv_at hl 0 rfl) ?_
                  refine lv_aload_n hx hb dX5_plotWays_51 rfl (lv_at hl 4 rfl) ?_
                  refine lv_iload_n hx hb dX5_plotWays_52 rfl (lv_at hl 2 rfl) ?_
                  refine lv_iload_n hx hb dX5_plotWays_53 rfl (lv_at hl 3 rfl) ?_
                  refine lv_iconst (v := iI (1)) hx hb dX5_plotWays_54 rfl ?_
                  refine j_iadd hx hb dX5_plotWays_55 ?_
                  refine CR_callV (As := [.int (iI (p0)), .int (iI (t + 1))]) (rest := [.int (iI (hw4)), .int (iI (p0 * 48 + t)), .ref (q 32)]) ⟨hx, hb, hml, hown, hts⟩ (c_X5_helpAt WkW_mk (by omega) ⟨by omega, by omega⟩) (cwV 2 hts gX5_plotWays_X5_helpAt rfl rfl rfl (by decide +kernel) ⟨Nat.le_of_ble_eq_true rfl, Nat.le_of_ble_eq_true rfl⟩) (q0 := 0) rfl rfl rfl hK hNW hP rfl hl.1 rfl (Nat.le_of_ble_eq_true rfl) dX5_plotWays_56 ⟨Nat.zero_le _, Nat.zero_le _⟩ ?_
                  refine W_wen (y := iI (Vf g p0 (t + 1))) (congrArg iI (hpA_at H2 (by omega) (by omega) (by omega))) ?_
                  refine j_iadd hx hb dX5_plotWays_59 ?_
                  refine j_iast hx hb hK hP hD hS 1 1 rfl rfl ⟨by omega, by omega⟩ (Nat.le_of_ble_eq_true rfl) dX5_plotWays_60 (fun H locs hP hD hS => ?_)
                  have hP : va_P D vwCl (wWk q C (up h3 (p0 * 48 + t) (hw4 + (Vf g p0 (t + 1)))) n3 ++ wr) H := hP
                  have hD : va_D A (wWk q C (up h3 (p0 * 48 + t) (hw4 + (Vf g p0 (t + 1)))) n3 ++ wr) := hD
                  rw [show hw4 + Vf g p0 (t + 1) = sty g p0 t by unfold sty; rw [e4]] at hP hD
                  refine lv_aload_n hx hb dX5_plotWays_61 rfl (lv_at hl 4 rfl) ?_
                  refine va_get (D := D) (ci := 5) (v := .ref (q 33)) (C := RX5) (T := TX5) (N := 4) hx hb hts (by decide +kernel) hown hK hP 0 rfl rfl 3 (by decide) (hts (.fieldLink RX5 23 "BreakSetter$Walker" "next" "[I") (by decide +kernel)) (fun _ h9 => h9) rfl dX5_plotWays_62 ?_
                  refine lv_iload_n hx hb dX5_plotWays_65 rfl (lv_at hl 1 rfl) ?_
                  refine lv_iload_n hx hb dX5_plotWays_66 rfl (lv_at hl 2 rfl) ?_
                  refine j_iast hx hb hK hP hD hS 2 1 rfl rfl ⟨by omega, by omega⟩ (Nat.le_of_ble_eq_true rfl) dX5_plotWays_67 (fun H locs hP hD hS => ?_)
                  have hP : va_P D vwCl (wWk q C (up h3 (p0 * 48 + t) (sty g p0 t)) (up n3 (p0 * 48 + t) p0) ++ wr) H := hP
                  have hD : va_D A (wWk q C (up h3 (p0 * 48 + t) (sty g p0 t)) (up n3 (p0 * 48 + t) p0) ++ wr) := hD
                  refine lv_iconst (v := iI (0)) hx hb dX5_plotWays_68 rfl ?_
                  refine lv_istore (lv' := [(5, .int (iI (0))), (4, .int (iI (hw4))), (3, .int (iI (p0 * 48 + t))), (2, .int (iI (p0))), (1, .int (iI (t))), (0, .ref (q 31))]) hx hb dX5_plotWays_69 hl (by decide) rfl (fun ls hl => ?_)
                  have L71 : ∀ (n : Nat) (o : Int) (v : Int) (y : Int) (ls : Array Slot) (H : Heap) (locs : List Loc), (0 ≤ o ∧ o ≤ g 0) → (wkn (Vf g) p0 (t + g 1) (sty g p0 t, p0) o.toNat = (v, y)) → ((g 0 - o).toNat < n) → (lv_has ls 7 [(5, .int (iI (o))), (4, .int (iI (hw4))), (3, .int (iI (p0 * 48 + t))), (2, .int (iI (p0))), (1, .int (iI (t))), (0, .ref (q 31))]) → (va_P D vwCl (wWk q C (up h3 (p0 * 48 + t) v) (up n3 (p0 * 48 + t) y) ++ wr) H) → (va_D A (wWk q C (up h3 (p0 * 48 + t) v) (up n3 (p0 * 48 + t) y) ++ wr)) → (va_S A s.heap H locs) → W p l e (rmN 2 51) s m ([.ref (q 31)] : List Value).toArray below meth c H locs 0 0 Q (F0 m 71 ls []) := by
                    intro n
                    induction n with
                    | zero => intro o v y ls H locs o1 h4 hn; exact absurd hn (Nat.not_lt_zero _)
                    | succ n ih71 =>
                      intro o v y ls H locs o1 h4 hn hl hP hD hS
                      have hn71 := hn
                      have vr := wkn_rng hg (p := p0) (t := t) (by omega) (by omega) o.toNat
                      rw [h4] at vr
                      have vr : 0 ≤ v ∧ v ≤ 60 := vr
                      have ro := Vf_r hg (p := o) (t := t + g 1) (by omega)
                      refine lv_iload hx hb dX5_plotWays_71 (lv_at hl 0 rfl) ?_
                      refine lv_aload_n hx hb dX5_plotWays_73 rfl (lv_at hl 5 rfl) ?_
                      refine va_get (D := D) (ci := 5) (v := .ref (q 16)) (C := RX5) (T := TX5) (N := 4) hx hb hts (by decide +kernel) hown hK hP 0 rfl rfl 0 (by decide) (hts (.fieldLink RX5 9 "BreakSetter$Walker" "plan" "LBreakSetter$Plan;") (by decide +kernel)) (fun _ h9 => h9) rfl dX5_plotWays_74 ?_
                      refine va_get (D := D) (ci := 1) (v := .int (iI (g 0))) (C := RX1) (T := TX1) (N := 17) hx hb hts (by decide +kernel) hown hK hP (k16 + 3) h16 rfl 0 (by decide) (hts (.fieldLink RX5 26 "BreakSetter$Plan" "posts" "I") (by decide +kernel)) (fun _ h9 => h9) rfl dX5_plotWays_77 ?_
                      refine j_icmp_ge (tgt := 139) hx hb dX5_plotWays_80 rfl ⟨by omega, by omega⟩ ⟨by omega, by omega⟩ (fun c80 => ?_) (fun c80 => ?_)
                      · skip
                        have hv : v = Vf g p0 t ∧ y = (nxp g p0 t).2 := by rw [Vf_eq hg (by omega) (by omega)]; unfold nxp; rw [show (g 0).toNat = o.toNat by omega, h4]; exact ⟨rfl, rfl⟩
                        refine j_iinc (k := 3) (lv' := [(2, .int (iI (p0 + 1))), (5, .int (iI (o))), (4, .int (iI (hw4))), (3, .int (iI (p0 * 48 + t))), (1, .int (iI (t))), (0, .ref (q 31))]) hx hb dX5_plotWays_139 hl rfl (by decide) rfl (fun ls hl => ?_)
                        refine lv_goto (tgt := 9) hx hb dX5_plotWays_142 rfl ?_
                        exact ih9 (p0 + 1) (up h3 (p0 * 48 + t) v) (up n3 (p0 * 48 + t) y) ls H locs (by omega) (fun p x a b c d => by rw [up_n _ _ (by omega)]; exact H2 p x a b c d) (fun p x a b c d => by rw [up_n _ _ (by omega)]; exact N2 p x a b c d) (fa_step (fun p a b => by rw [up_n _ _ (by omega)]; exact H3 p a b) (by rw [up_s]; exact hv.1)) (fa_step (fun p a b => by rw [up_n _ _ (by omega)]; exact N3 p a b) (by rw [up_s]; exact hv.2)) (by omega) (lv_sub hl [0, 4, 5] rfl) hP hD hS
                      · skip
                        refine lv_aload_n hx hb dX5_plotWays_83 rfl (lv_at hl 5 rfl) ?_
                        refine lv_iload hx hb dX5_plotWays_84 (lv_at hl 0 rfl) ?_
                        refine lv_iload_n hx hb dX5_plotWays_86 rfl (lv_at hl 4 rfl) ?_
                        refine lv_aload_n hx hb dX5_plotWays_87 rfl (lv_at hl 5 rfl) ?_
                        refine va_get (D := D) (ci := 5) (v := .ref (q 16)) (C := RX5) (T := TX5) (N := 4) hx hb hts (by decide +kernel) hown hK hP 0 rfl rfl 0 (by decide) (hts (.fieldLink RX5 9 "BreakSetter$Walker" "plan" "LBreakSetter$Plan;") (by decide +kernel)) (fun _ h9 => h9) rfl dX5_plotWays_88 ?_
                        refine va_get (D := D) (ci := 1) (v := .int (iI (g 1))) (C := RX1) (T := TX1) (N := 17) hx hb hts (by decide +kernel) hown hK hP (k16 + 3) h16 rfl 1 (by decide) (hts (.fieldLink RX5 45 "BreakSetter$Plan" "walk" "I") (by decide +kernel)) (fun _ h9 => h9) rfl dX5_plotWays_91 ?_
                        refine j_iadd hx hb dX5_plotWays_94 ?_
                        refine CR_callV (As := [.int (iI (o)), .int (iI (t + (g 1)))]) (rest := []) ⟨hx, hb, hml, hown, hts⟩ (c_X5_helpAt WkW_mk (by omega) ⟨by omega, by omega⟩) (cwV 2 hts gX5_plotWays_X5_helpAt rfl rfl rfl (by decide +kernel) ⟨Nat.le_of_ble_eq_true rfl, Nat.le_of_ble_eq_true rfl⟩) (q0 := 0) rfl rfl rfl hK hNW hP rfl hl.1 rfl (Nat.le_of_ble_eq_true rfl) dX5_plotWays_95 ⟨Nat.zero_le _, Nat.zero_le _⟩ ?_
                        refine W_wen (y := iI (Vf g o (t + g 1))) (congrArg iI (hpA_up H2 (by omega) (by omega) (by omega) (by omega))) ?_
                        refine lv_istore (lv' := [(6, .int (iI (Vf g o (t + g 1)))), (5, .int (iI (o))), (4, .int (iI (hw4))), (3, .int (iI (p0 * 48 + t))), (2, .int (iI (p0))), (1, .int (iI (t))), (0, .ref (q 31))]) hx hb dX5_plotWays_98 hl (by decide) rfl (fun ls hl => ?_)
                        refine lv_iload hx hb dX5_plotWays_100 (lv_at hl 1 rfl) ?_
                        refine lv_iload_n hx hb dX5_plotWays_102 rfl (lv_at hl 4 rfl) ?_
                        refine j_icmp_eq (tgt := 133) hx hb dX5_plotWays_103 rfl ⟨by omega, by omega⟩ ⟨by omega, by omega⟩ (fun c103 => ?_) (fun c103 => ?_)
                        · skip
                          refine j_iinc (k := 1) (lv' := [(5, .int (iI (o + 1))), (6, .int (iI (Vf g o (t + g 1)))), (4, .int (iI (hw4))), (3, .int (iI (p0 * 48 + t))), (2, .int (iI (p0))), (1, .int (iI (t))), (0, .ref (q 31))]) hx hb dX5_plotWays_133 hl rfl (by decide) rfl (fun ls hl => ?_)
                          refine lv_goto (tgt := 71) hx hb dX5_plotWays_136 rfl ?_
                          exact ih71 (o + 1) v y ls H locs (by omega) (by rw [wkn_s o1.1, h4]; unfold wk1; first | (exact if_pos ⟨c103, by show v < Vf g o (t + g 1); omega⟩; done) | (exact if_neg (fun q => by have q2 : v < Vf g o (t + g 1) := q.2; have q1 := q.1; omega); done)) (by omega) (lv_sub hl [0, 2, 3, 4, 5, 6] rfl) hP hD hS
                        · skip
                          refine lv_iload hx hb dX5_plotWays_106 (lv_at hl 0 rfl) ?_
                          refine lv_aload_n hx hb dX5_plotWays_108 rfl (lv_at hl 6 rfl) ?_
                          refine va_get (D := D) (ci := 5) (v := .ref (q 32)) (C := RX5) (T := TX5) (N := 4) hx hb hts (by decide +kernel) hown hK hP 0 rfl rfl 2 (by decide) (hts (.fieldLink RX5 19 "BreakSetter$Walker" "help" "[I") (by decide +kernel)) (fun _ h9 => h9) rfl dX5_plotWays_109 ?_
                          refine lv_iload_n hx hb dX5_plotWays_112 rfl (lv_at hl 3 rfl) ?_
                          refine j_iald hx hb hK hP 1 1 rfl rfl ⟨by omega, by omega⟩ (Nat.le_of_ble_eq_true rfl) dX5_plotWays_113 ?_
                          refine W_wen (y := iI v) (congrArg iI (up_s _ _ _)) ?_
                          refine j_icmp_le (tgt := 133) hx hb dX5_plotWays_114 rfl ⟨by omega, by omega⟩ ⟨by omega, by omega⟩ (fun c114 => ?_) (fun c114 => ?_)
                          · skip
                            refine j_iinc (k := 1) (lv' := [(5, .int (iI (o + 1))), (6, .int (iI (Vf g o (t + g 1)))), (4, .int (iI (hw4))), (3, .int (iI (p0 * 48 + t))), (2, .int (iI (p0))), (1, .int (iI (t))), (0, .ref (q 31))]) hx hb dX5_plotWays_133 hl rfl (by decide) rfl (fun ls hl => ?_)
                            refine lv_goto (tgt := 71) hx hb dX5_plotWays_136 rfl ?_
                            exact ih71 (o + 1) v y ls H locs (by omega) (by rw [wkn_s o1.1, h4]; unfold wk1; first | (exact if_pos ⟨c103, by show v < Vf g o (t + g 1); omega⟩; done) | (exact if_neg (fun q => by have q2 : v < Vf g o (t + g 1) := q.2; have q1 := q.1; omega); done)) (by omega) (lv_sub hl [0, 2, 3, 4, 5, 6] rfl) hP hD hS
                          · skip
                            refine lv_aload_n hx hb dX5_plotWays_117 rfl (lv_at hl 6 rfl) ?_
                            refine va_get (D := D) (ci := 5) (v := .ref (q 32)) (C := RX5) (T := TX5) (N := 4) hx hb hts (by decide +kernel) hown hK hP 0 rfl rfl 2 (by decide) (hts (.fieldLink RX5 19 "BreakSetter$Walker" "help" "[I") (by decide +kernel)) (fun _ h9 => h9) rfl dX5_plotWays_118 ?_
                            refine lv_iload_n hx hb dX5_plotWays_121 rfl (lv_at hl 3 rfl) ?_
                            refine lv_iload hx hb dX5_plotWays_122 (lv_at hl 0 rfl) ?_
                            refine j_iast hx hb hK hP hD hS 1 1 rfl rfl ⟨by omega, by omega⟩ (Nat.le_of_ble_eq_true rfl) dX5_plotWays_124 (fun H locs hP hD hS => ?_)
                            have hP : va_P D vwCl (wWk q C (up (up h3 (p0 * 48 + t) v) (p0 * 48 + t) (Vf g o (t + g 1))) (up n3 (p0 * 48 + t) y) ++ wr) H := hP
                            have hD : va_D A (wWk q C (up (up h3 (p0 * 48 + t) v) (p0 * 48 + t) (Vf g o (t + g 1))) (up n3 (p0 * 48 + t) y) ++ wr) := hD
                            refine lv_aload_n hx hb dX5_plotWays_125 rfl (lv_at hl 6 rfl) ?_
                            refine va_get (D := D) (ci := 5) (v := .ref (q 33)) (C := RX5) (T := TX5) (N := 4) hx hb hts (by decide +kernel) hown hK hP 0 rfl rfl 3 (by decide) (hts (.fieldLink RX5 23 "BreakSetter$Walker" "next" "[I") (by decide +kernel)) (fun _ h9 => h9) rfl dX5_plotWays_126 ?_
                            refine lv_iload_n hx hb dX5_plotWays_129 rfl (lv_at hl 3 rfl) ?_
                            refine lv_iload hx hb dX5_plotWays_130 (lv_at hl 1 rfl) ?_
                            refine j_iast hx hb hK hP hD hS 2 1 rfl rfl ⟨by omega, by omega⟩ (Nat.le_of_ble_eq_true rfl) dX5_plotWays_132 (fun H locs hP hD hS => ?_)
                            have hP : va_P D vwCl (wWk q C (up (up h3 (p0 * 48 + t) v) (p0 * 48 + t) (Vf g o (t + g 1))) (up (up n3 (p0 * 48 + t) y) (p0 * 48 + t) o) ++ wr) H := hP
                            have hD : va_D A (wWk q C (up (up h3 (p0 * 48 + t) v) (p0 * 48 + t) (Vf g o (t + g 1))) (up (up n3 (p0 * 48 + t) y) (p0 * 48 + t) o) ++ wr) := hD
                            refine j_iinc (k := 1) (lv' := [(5, .int (iI (o + 1))), (6, .int (iI (Vf g o (t + g 1)))), (4, .int (iI (hw4))), (3, .int (iI (p0 * 48 + t))), (2, .int (iI (p0))), (1, .int (iI (t))), (0, .ref (q 31))]) hx hb dX5_plotWays_133 hl rfl (by decide) rfl (fun ls hl => ?_)
                            refine lv_goto (tgt := 71) hx hb dX5_plotWays_136 rfl ?_
                            rw [up_up, up_up] at hP hD
                            exact ih71 (o + 1) (Vf g o (t + g 1)) o ls H locs (by omega) (by rw [wkn_s o1.1, h4]; unfold wk1; first | (exact if_pos ⟨c103, by show v < Vf g o (t + g 1); omega⟩; done) | (exact if_neg (fun q => by have q2 : v < Vf g o (t + g 1) := q.2; have q1 := q.1; omega); done)) (by omega) (lv_sub hl [0, 2, 3, 4, 5, 6] rfl) hP hD hS
                  exact L71 _ 0 (sty g p0 t) p0 ls H locs (by omega) rfl (Nat.lt_succ_self _) (lv_sub hl [0, 1, 2, 3, 4, 5] rfl) hP hD hS
                exact J42 1 ls H locs (by first | exact (bI_t (by omega)).symm | exact (bI_f (by omega)).symm)  (lv_sub hl [0, 1, 2, 3] rfl) hP hD hS
        exact L9 _ 0 h2 n2 ls H locs (by omega) H2 N2 (fun p a b => absurd b (by omega)) (fun p a b => absurd b (by omega)) (Nat.lt_succ_self _) (lv_sub hl [0, 1, 2] rfl) hP hD hS
  exact L3 _ 47 hp nx ls s.heap [] (by omega) (fun p x a b c d => absurd d (by omega)) (fun p x a b c d => absurd d (by omega)) (Nat.lt_succ_self _) (lv_sub hl [0, 1] rfl) hP hD hS
